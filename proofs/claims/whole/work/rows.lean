section
-- ===== PART A: goes FIRST, ahead of the names: the tables' words, and 'selects' of the private methods out of them =====
/-- a private method of a class that the tables say can be made, by its rows of tables_1 -/
def lw_okq (q : MethodName × Nat) : Prop := (q.1.cls ≠ "java/lang/invoke/MethodHandle" ∧ q.1.cls ≠ "java/lang/invoke/VarHandle") ∧ Cond.instantiable q.1.cls q.2 ∈ tables_1 ∧ Cond.privateMethod q.1 ∈ tables_1 ∧ Cond.instanceMethod q.1 ∈ tables_1
theorem lw_p0 : lw_okq (⟨"ChordSheet$Reader", "readChord", "(I)V"⟩, 6) := ⟨⟨by decide +kernel, by decide +kernel⟩, List.mem_of_getElem? (i := 100) (by decide +kernel), List.mem_of_getElem? (i := 231) (by decide +kernel), List.mem_of_getElem? (i := 232) (by decide +kernel)⟩
theorem lw_p1 : lw_okq (⟨"ChordSheet$Reader", "readNote", "()I"⟩, 6) := ⟨⟨by decide +kernel, by decide +kernel⟩, List.mem_of_getElem? (i := 100) (by decide +kernel), List.mem_of_getElem? (i := 235) (by decide +kernel), List.mem_of_getElem? (i := 236) (by decide +kernel)⟩
theorem lw_p2 : lw_okq (⟨"ChordSheet$Reader", "readQuality", "()Z"⟩, 6) := ⟨⟨by decide +kernel, by decide +kernel⟩, List.mem_of_getElem? (i := 100) (by decide +kernel), List.mem_of_getElem? (i := 329) (by decide +kernel), List.mem_of_getElem? (i := 330) (by decide +kernel)⟩
theorem lw_p3 : lw_okq (⟨"ChordSheet$Reader", "sharedLength", "(Ljava/lang/String;)I"⟩, 6) := ⟨⟨by decide +kernel, by decide +kernel⟩, List.mem_of_getElem? (i := 100) (by decide +kernel), List.mem_of_getElem? (i := 343) (by decide +kernel), List.mem_of_getElem? (i := 344) (by decide +kernel)⟩
theorem lw_p4 : lw_okq (⟨"ChordSheet$Sheet", "startOf", "(I)I"⟩, 7) := ⟨⟨by decide +kernel, by decide +kernel⟩, List.mem_of_getElem? (i := 50) (by decide +kernel), List.mem_of_getElem? (i := 376) (by decide +kernel), List.mem_of_getElem? (i := 377) (by decide +kernel)⟩
theorem lw_p5 : lw_okq (⟨"ChordSheet$Sheet", "isUpTo", "(III)Z"⟩, 7) := ⟨⟨by decide +kernel, by decide +kernel⟩, List.mem_of_getElem? (i := 50) (by decide +kernel), List.mem_of_getElem? (i := 388) (by decide +kernel), List.mem_of_getElem? (i := 389) (by decide +kernel)⟩
theorem lw_p6 : lw_okq (⟨"ChordSheet$Sheet", "set", "(III)V"⟩, 7) := ⟨⟨by decide +kernel, by decide +kernel⟩, List.mem_of_getElem? (i := 50) (by decide +kernel), List.mem_of_getElem? (i := 399) (by decide +kernel), List.mem_of_getElem? (i := 400) (by decide +kernel)⟩
theorem lw_p7 : lw_okq (⟨"ChordSheet$History", "stateAt", "(I)LChordSheet$Sheet;"⟩, 3) := ⟨⟨by decide +kernel, by decide +kernel⟩, List.mem_of_getElem? (i := 81) (by decide +kernel), List.mem_of_getElem? (i := 420) (by decide +kernel), List.mem_of_getElem? (i := 421) (by decide +kernel)⟩
theorem lw_p8 : lw_okq (⟨"ChordSheet", "takeKey", "(I)V"⟩, 10) := ⟨⟨by decide +kernel, by decide +kernel⟩, List.mem_of_getElem? (i := 28) (by decide +kernel), List.mem_of_getElem? (i := 457) (by decide +kernel), List.mem_of_getElem? (i := 458) (by decide +kernel)⟩
theorem lw_p9 : lw_okq (⟨"ChordSheet$Sheet", "spellField", "(IIIZ)I"⟩, 7) := ⟨⟨by decide +kernel, by decide +kernel⟩, List.mem_of_getElem? (i := 50) (by decide +kernel), List.mem_of_getElem? (i := 511) (by decide +kernel), List.mem_of_getElem? (i := 512) (by decide +kernel)⟩
theorem lw_p10 : lw_okq (⟨"java/lang/Throwable", "fillInStackTrace", "(I)Ljava/lang/Throwable;"⟩, 6) := ⟨⟨by decide +kernel, by decide +kernel⟩, List.mem_of_getElem? (i := 616) (by decide +kernel), List.mem_of_getElem? (i := 614) (by decide +kernel), List.mem_of_getElem? (i := 615) (by decide +kernel)⟩
theorem lw_p11 : lw_okq (⟨"ChordSheet", "requireLine", "(I)V"⟩, 10) := ⟨⟨by decide +kernel, by decide +kernel⟩, List.mem_of_getElem? (i := 28) (by decide +kernel), List.mem_of_getElem? (i := 681) (by decide +kernel), List.mem_of_getElem? (i := 682) (by decide +kernel)⟩
theorem lw_p12 : lw_okq (⟨"ChordSheet", "requireChord", "(I)V"⟩, 10) := ⟨⟨by decide +kernel, by decide +kernel⟩, List.mem_of_getElem? (i := 28) (by decide +kernel), List.mem_of_getElem? (i := 722) (by decide +kernel), List.mem_of_getElem? (i := 723) (by decide +kernel)⟩
theorem lw_p13 : lw_okq (⟨"ChordSheet", "requireIndex", "(I)V"⟩, 10) := ⟨⟨by decide +kernel, by decide +kernel⟩, List.mem_of_getElem? (i := 28) (by decide +kernel), List.mem_of_getElem? (i := 763) (by decide +kernel), List.mem_of_getElem? (i := 764) (by decide +kernel)⟩
theorem lw_p14 : lw_okq (⟨"ChordSheet", "requireChordColumn", "(II)V"⟩, 10) := ⟨⟨by decide +kernel, by decide +kernel⟩, List.mem_of_getElem? (i := 28) (by decide +kernel), List.mem_of_getElem? (i := 818) (by decide +kernel), List.mem_of_getElem? (i := 819) (by decide +kernel)⟩
theorem lw_p15 : lw_okq (⟨"ChordSheet", "requireTonic", "(IZ)V"⟩, 10) := ⟨⟨by decide +kernel, by decide +kernel⟩, List.mem_of_getElem? (i := 28) (by decide +kernel), List.mem_of_getElem? (i := 888) (by decide +kernel), List.mem_of_getElem? (i := 889) (by decide +kernel)⟩
def lw_privs_1 : List (MethodName × Nat) := [(⟨"ChordSheet$Reader", "readChord", "(I)V"⟩, 6), (⟨"ChordSheet$Reader", "readNote", "()I"⟩, 6), (⟨"ChordSheet$Reader", "readQuality", "()Z"⟩, 6), (⟨"ChordSheet$Reader", "sharedLength", "(Ljava/lang/String;)I"⟩, 6), (⟨"ChordSheet$Sheet", "startOf", "(I)I"⟩, 7), (⟨"ChordSheet$Sheet", "isUpTo", "(III)Z"⟩, 7), (⟨"ChordSheet$Sheet", "set", "(III)V"⟩, 7), (⟨"ChordSheet$History", "stateAt", "(I)LChordSheet$Sheet;"⟩, 3), (⟨"ChordSheet", "takeKey", "(I)V"⟩, 10), (⟨"ChordSheet$Sheet", "spellField", "(IIIZ)I"⟩, 7), (⟨"java/lang/Throwable", "fillInStackTrace", "(I)Ljava/lang/Throwable;"⟩, 6), (⟨"ChordSheet", "requireLine", "(I)V"⟩, 10), (⟨"ChordSheet", "requireChord", "(I)V"⟩, 10), (⟨"ChordSheet", "requireIndex", "(I)V"⟩, 10), (⟨"ChordSheet", "requireChordColumn", "(II)V"⟩, 10), (⟨"ChordSheet", "requireTonic", "(IZ)V"⟩, 10)]
theorem lw_r1 : ∀ q ∈ lw_privs_1, lw_okq q := List.forall_mem_cons.mpr ⟨lw_p0, List.forall_mem_cons.mpr ⟨lw_p1, List.forall_mem_cons.mpr ⟨lw_p2, List.forall_mem_cons.mpr ⟨lw_p3, List.forall_mem_cons.mpr ⟨lw_p4, List.forall_mem_cons.mpr ⟨lw_p5, List.forall_mem_cons.mpr ⟨lw_p6, List.forall_mem_cons.mpr ⟨lw_p7, List.forall_mem_cons.mpr ⟨lw_p8, List.forall_mem_cons.mpr ⟨lw_p9, List.forall_mem_cons.mpr ⟨lw_p10, List.forall_mem_cons.mpr ⟨lw_p11, List.forall_mem_cons.mpr ⟨lw_p12, List.forall_mem_cons.mpr ⟨lw_p13, List.forall_mem_cons.mpr ⟨lw_p14, List.forall_mem_cons.mpr ⟨lw_p15, fun _ h => absurd h List.not_mem_nil⟩⟩⟩⟩⟩⟩⟩⟩⟩⟩⟩⟩⟩⟩⟩⟩
theorem lw_p16 : lw_okq (⟨"ChordSheet$Layout", "start", "(II)V"⟩, 11) := ⟨⟨by decide +kernel, by decide +kernel⟩, List.mem_of_getElem? (i := 125) (by decide +kernel), List.mem_of_getElem? (i := 934) (by decide +kernel), List.mem_of_getElem? (i := 935) (by decide +kernel)⟩
theorem lw_p17 : lw_okq (⟨"ChordSheet$Layout", "layNext", "()Z"⟩, 11) := ⟨⟨by decide +kernel, by decide +kernel⟩, List.mem_of_getElem? (i := 125) (by decide +kernel), List.mem_of_getElem? (i := 939) (by decide +kernel), List.mem_of_getElem? (i := 940) (by decide +kernel)⟩
theorem lw_p18 : lw_okq (⟨"ChordSheet$Layout", "isInnerBreak", "(I)Z"⟩, 11) := ⟨⟨by decide +kernel, by decide +kernel⟩, List.mem_of_getElem? (i := 125) (by decide +kernel), List.mem_of_getElem? (i := 946) (by decide +kernel), List.mem_of_getElem? (i := 947) (by decide +kernel)⟩
theorem lw_p19 : lw_okq (⟨"ChordSheet$Layout", "isLetter", "(I)Z"⟩, 11) := ⟨⟨by decide +kernel, by decide +kernel⟩, List.mem_of_getElem? (i := 125) (by decide +kernel), List.mem_of_getElem? (i := 950) (by decide +kernel), List.mem_of_getElem? (i := 951) (by decide +kernel)⟩
theorem lw_p20 : lw_okq (⟨"ChordSheet$Layout", "offerEnd", "(I)Z"⟩, 11) := ⟨⟨by decide +kernel, by decide +kernel⟩, List.mem_of_getElem? (i := 125) (by decide +kernel), List.mem_of_getElem? (i := 955) (by decide +kernel), List.mem_of_getElem? (i := 956) (by decide +kernel)⟩
theorem lw_p21 : lw_okq (⟨"ChordSheet$Layout", "placeChords", "(I)V"⟩, 11) := ⟨⟨by decide +kernel, by decide +kernel⟩, List.mem_of_getElem? (i := 125) (by decide +kernel), List.mem_of_getElem? (i := 960) (by decide +kernel), List.mem_of_getElem? (i := 961) (by decide +kernel)⟩
theorem lw_p22 : lw_okq (⟨"ChordSheet$Layout", "cutBack", "()V"⟩, 11) := ⟨⟨by decide +kernel, by decide +kernel⟩, List.mem_of_getElem? (i := 125) (by decide +kernel), List.mem_of_getElem? (i := 975) (by decide +kernel), List.mem_of_getElem? (i := 976) (by decide +kernel)⟩
theorem lw_p23 : lw_okq (⟨"ChordSheetModel", "fails", "(I)I"⟩, 24) := ⟨⟨by decide +kernel, by decide +kernel⟩, List.mem_of_getElem? (i := 1015) (by decide +kernel), List.mem_of_getElem? (i := 1105) (by decide +kernel), List.mem_of_getElem? (i := 1106) (by decide +kernel)⟩
theorem lw_p24 : lw_okq (⟨"ChordSheetModel", "readsSheet", "()Z"⟩, 24) := ⟨⟨by decide +kernel, by decide +kernel⟩, List.mem_of_getElem? (i := 1015) (by decide +kernel), List.mem_of_getElem? (i := 1117) (by decide +kernel), List.mem_of_getElem? (i := 1118) (by decide +kernel)⟩
theorem lw_p25 : lw_okq (⟨"ChordSheetModel", "sign", "(I)I"⟩, 24) := ⟨⟨by decide +kernel, by decide +kernel⟩, List.mem_of_getElem? (i := 1015) (by decide +kernel), List.mem_of_getElem? (i := 1121) (by decide +kernel), List.mem_of_getElem? (i := 1122) (by decide +kernel)⟩
theorem lw_p26 : lw_okq (⟨"ChordSheetModel", "readsChord", "(I)Z"⟩, 24) := ⟨⟨by decide +kernel, by decide +kernel⟩, List.mem_of_getElem? (i := 1015) (by decide +kernel), List.mem_of_getElem? (i := 1125) (by decide +kernel), List.mem_of_getElem? (i := 1126) (by decide +kernel)⟩
theorem lw_p27 : lw_okq (⟨"ChordSheetModel", "readsNote", "()Z"⟩, 24) := ⟨⟨by decide +kernel, by decide +kernel⟩, List.mem_of_getElem? (i := 1015) (by decide +kernel), List.mem_of_getElem? (i := 1129) (by decide +kernel), List.mem_of_getElem? (i := 1130) (by decide +kernel)⟩
theorem lw_p28 : lw_okq (⟨"ChordSheetModel", "placeOf", "(I)I"⟩, 24) := ⟨⟨by decide +kernel, by decide +kernel⟩, List.mem_of_getElem? (i := 1015) (by decide +kernel), List.mem_of_getElem? (i := 1133) (by decide +kernel), List.mem_of_getElem? (i := 1134) (by decide +kernel)⟩
theorem lw_p29 : lw_okq (⟨"ChordSheetModel", "likeQuality", "(I)I"⟩, 24) := ⟨⟨by decide +kernel, by decide +kernel⟩, List.mem_of_getElem? (i := 1015) (by decide +kernel), List.mem_of_getElem? (i := 1137) (by decide +kernel), List.mem_of_getElem? (i := 1138) (by decide +kernel)⟩
theorem lw_p30 : lw_okq (⟨"ChordSheetModel", "acts", "()V"⟩, 24) := ⟨⟨by decide +kernel, by decide +kernel⟩, List.mem_of_getElem? (i := 1015) (by decide +kernel), List.mem_of_getElem? (i := 1144) (by decide +kernel), List.mem_of_getElem? (i := 1145) (by decide +kernel)⟩
theorem lw_p31 : lw_okq (⟨"ChordSheetModel", "found", "()I"⟩, 24) := ⟨⟨by decide +kernel, by decide +kernel⟩, List.mem_of_getElem? (i := 1015) (by decide +kernel), List.mem_of_getElem? (i := 1148) (by decide +kernel), List.mem_of_getElem? (i := 1149) (by decide +kernel)⟩
def lw_privs_2 : List (MethodName × Nat) := [(⟨"ChordSheet$Layout", "start", "(II)V"⟩, 11), (⟨"ChordSheet$Layout", "layNext", "()Z"⟩, 11), (⟨"ChordSheet$Layout", "isInnerBreak", "(I)Z"⟩, 11), (⟨"ChordSheet$Layout", "isLetter", "(I)Z"⟩, 11), (⟨"ChordSheet$Layout", "offerEnd", "(I)Z"⟩, 11), (⟨"ChordSheet$Layout", "placeChords", "(I)V"⟩, 11), (⟨"ChordSheet$Layout", "cutBack", "()V"⟩, 11), (⟨"ChordSheetModel", "fails", "(I)I"⟩, 24), (⟨"ChordSheetModel", "readsSheet", "()Z"⟩, 24), (⟨"ChordSheetModel", "sign", "(I)I"⟩, 24), (⟨"ChordSheetModel", "readsChord", "(I)Z"⟩, 24), (⟨"ChordSheetModel", "readsNote", "()Z"⟩, 24), (⟨"ChordSheetModel", "placeOf", "(I)I"⟩, 24), (⟨"ChordSheetModel", "likeQuality", "(I)I"⟩, 24), (⟨"ChordSheetModel", "acts", "()V"⟩, 24), (⟨"ChordSheetModel", "found", "()I"⟩, 24)]
theorem lw_r2 : ∀ q ∈ lw_privs_2, lw_okq q := List.forall_mem_cons.mpr ⟨lw_p16, List.forall_mem_cons.mpr ⟨lw_p17, List.forall_mem_cons.mpr ⟨lw_p18, List.forall_mem_cons.mpr ⟨lw_p19, List.forall_mem_cons.mpr ⟨lw_p20, List.forall_mem_cons.mpr ⟨lw_p21, List.forall_mem_cons.mpr ⟨lw_p22, List.forall_mem_cons.mpr ⟨lw_p23, List.forall_mem_cons.mpr ⟨lw_p24, List.forall_mem_cons.mpr ⟨lw_p25, List.forall_mem_cons.mpr ⟨lw_p26, List.forall_mem_cons.mpr ⟨lw_p27, List.forall_mem_cons.mpr ⟨lw_p28, List.forall_mem_cons.mpr ⟨lw_p29, List.forall_mem_cons.mpr ⟨lw_p30, List.forall_mem_cons.mpr ⟨lw_p31, fun _ h => absurd h List.not_mem_nil⟩⟩⟩⟩⟩⟩⟩⟩⟩⟩⟩⟩⟩⟩⟩⟩
theorem lw_p32 : lw_okq (⟨"ChordSheetModel", "scoreOf", "(IZ)I"⟩, 24) := ⟨⟨by decide +kernel, by decide +kernel⟩, List.mem_of_getElem? (i := 1015) (by decide +kernel), List.mem_of_getElem? (i := 1152) (by decide +kernel), List.mem_of_getElem? (i := 1153) (by decide +kernel)⟩
theorem lw_p33 : lw_okq (⟨"ChordSheetModel", "isLine", "(I)Z"⟩, 24) := ⟨⟨by decide +kernel, by decide +kernel⟩, List.mem_of_getElem? (i := 1015) (by decide +kernel), List.mem_of_getElem? (i := 1188) (by decide +kernel), List.mem_of_getElem? (i := 1189) (by decide +kernel)⟩
theorem lw_p34 : lw_okq (⟨"ChordSheetModel", "lengthOf", "(I)I"⟩, 24) := ⟨⟨by decide +kernel, by decide +kernel⟩, List.mem_of_getElem? (i := 1015) (by decide +kernel), List.mem_of_getElem? (i := 1192) (by decide +kernel), List.mem_of_getElem? (i := 1193) (by decide +kernel)⟩
theorem lw_p35 : lw_okq (⟨"ChordSheetModel", "lyricAt", "(II)I"⟩, 24) := ⟨⟨by decide +kernel, by decide +kernel⟩, List.mem_of_getElem? (i := 1015) (by decide +kernel), List.mem_of_getElem? (i := 1200) (by decide +kernel), List.mem_of_getElem? (i := 1201) (by decide +kernel)⟩
theorem lw_p36 : lw_okq (⟨"ChordSheetModel", "told", "(II)I"⟩, 24) := ⟨⟨by decide +kernel, by decide +kernel⟩, List.mem_of_getElem? (i := 1015) (by decide +kernel), List.mem_of_getElem? (i := 1212) (by decide +kernel), List.mem_of_getElem? (i := 1213) (by decide +kernel)⟩
theorem lw_p37 : lw_okq (⟨"ChordSheetModel", "isChord", "(I)Z"⟩, 24) := ⟨⟨by decide +kernel, by decide +kernel⟩, List.mem_of_getElem? (i := 1015) (by decide +kernel), List.mem_of_getElem? (i := 1216) (by decide +kernel), List.mem_of_getElem? (i := 1217) (by decide +kernel)⟩
theorem lw_p38 : lw_okq (⟨"ChordSheetModel", "names", "(I)V"⟩, 24) := ⟨⟨by decide +kernel, by decide +kernel⟩, List.mem_of_getElem? (i := 1015) (by decide +kernel), List.mem_of_getElem? (i := 1240) (by decide +kernel), List.mem_of_getElem? (i := 1241) (by decide +kernel)⟩
theorem lw_p39 : lw_okq (⟨"ChordSheetModel", "tellsNote", "(I)V"⟩, 24) := ⟨⟨by decide +kernel, by decide +kernel⟩, List.mem_of_getElem? (i := 1015) (by decide +kernel), List.mem_of_getElem? (i := 1244) (by decide +kernel), List.mem_of_getElem? (i := 1245) (by decide +kernel)⟩
theorem lw_p40 : lw_okq (⟨"ChordSheetModel", "tells", "(I)V"⟩, 24) := ⟨⟨by decide +kernel, by decide +kernel⟩, List.mem_of_getElem? (i := 1015) (by decide +kernel), List.mem_of_getElem? (i := 1248) (by decide +kernel), List.mem_of_getElem? (i := 1249) (by decide +kernel)⟩
theorem lw_p41 : lw_okq (⟨"ChordSheetModel", "isText", "()Z"⟩, 24) := ⟨⟨by decide +kernel, by decide +kernel⟩, List.mem_of_getElem? (i := 1015) (by decide +kernel), List.mem_of_getElem? (i := 1256) (by decide +kernel), List.mem_of_getElem? (i := 1257) (by decide +kernel)⟩
theorem lw_p42 : lw_okq (⟨"ChordSheetModel", "puts", "(I)V"⟩, 24) := ⟨⟨by decide +kernel, by decide +kernel⟩, List.mem_of_getElem? (i := 1015) (by decide +kernel), List.mem_of_getElem? (i := 1260) (by decide +kernel), List.mem_of_getElem? (i := 1261) (by decide +kernel)⟩
theorem lw_p43 : lw_okq (⟨"ChordSheetModel", "comesTo", "(II)I"⟩, 24) := ⟨⟨by decide +kernel, by decide +kernel⟩, List.mem_of_getElem? (i := 1015) (by decide +kernel), List.mem_of_getElem? (i := 1268) (by decide +kernel), List.mem_of_getElem? (i := 1269) (by decide +kernel)⟩
theorem lw_p44 : lw_okq (⟨"ChordSheetModel", "opens", "(I)V"⟩, 24) := ⟨⟨by decide +kernel, by decide +kernel⟩, List.mem_of_getElem? (i := 1015) (by decide +kernel), List.mem_of_getElem? (i := 1272) (by decide +kernel), List.mem_of_getElem? (i := 1273) (by decide +kernel)⟩
theorem lw_p45 : lw_okq (⟨"ChordSheetModel", "closes", "(I)V"⟩, 24) := ⟨⟨by decide +kernel, by decide +kernel⟩, List.mem_of_getElem? (i := 1015) (by decide +kernel), List.mem_of_getElem? (i := 1280) (by decide +kernel), List.mem_of_getElem? (i := 1281) (by decide +kernel)⟩
theorem lw_p46 : lw_okq (⟨"ChordSheetModel", "hasTone", "(II)Z"⟩, 24) := ⟨⟨by decide +kernel, by decide +kernel⟩, List.mem_of_getElem? (i := 1015) (by decide +kernel), List.mem_of_getElem? (i := 1292) (by decide +kernel), List.mem_of_getElem? (i := 1293) (by decide +kernel)⟩
theorem lw_p47 : lw_okq (⟨"ChordSheetModel", "signatureNow", "()I"⟩, 24) := ⟨⟨by decide +kernel, by decide +kernel⟩, List.mem_of_getElem? (i := 1015) (by decide +kernel), List.mem_of_getElem? (i := 1303) (by decide +kernel), List.mem_of_getElem? (i := 1304) (by decide +kernel)⟩
def lw_privs_3 : List (MethodName × Nat) := [(⟨"ChordSheetModel", "scoreOf", "(IZ)I"⟩, 24), (⟨"ChordSheetModel", "isLine", "(I)Z"⟩, 24), (⟨"ChordSheetModel", "lengthOf", "(I)I"⟩, 24), (⟨"ChordSheetModel", "lyricAt", "(II)I"⟩, 24), (⟨"ChordSheetModel", "told", "(II)I"⟩, 24), (⟨"ChordSheetModel", "isChord", "(I)Z"⟩, 24), (⟨"ChordSheetModel", "names", "(I)V"⟩, 24), (⟨"ChordSheetModel", "tellsNote", "(I)V"⟩, 24), (⟨"ChordSheetModel", "tells", "(I)V"⟩, 24), (⟨"ChordSheetModel", "isText", "()Z"⟩, 24), (⟨"ChordSheetModel", "puts", "(I)V"⟩, 24), (⟨"ChordSheetModel", "comesTo", "(II)I"⟩, 24), (⟨"ChordSheetModel", "opens", "(I)V"⟩, 24), (⟨"ChordSheetModel", "closes", "(I)V"⟩, 24), (⟨"ChordSheetModel", "hasTone", "(II)Z"⟩, 24), (⟨"ChordSheetModel", "signatureNow", "()I"⟩, 24)]
theorem lw_r3 : ∀ q ∈ lw_privs_3, lw_okq q := List.forall_mem_cons.mpr ⟨lw_p32, List.forall_mem_cons.mpr ⟨lw_p33, List.forall_mem_cons.mpr ⟨lw_p34, List.forall_mem_cons.mpr ⟨lw_p35, List.forall_mem_cons.mpr ⟨lw_p36, List.forall_mem_cons.mpr ⟨lw_p37, List.forall_mem_cons.mpr ⟨lw_p38, List.forall_mem_cons.mpr ⟨lw_p39, List.forall_mem_cons.mpr ⟨lw_p40, List.forall_mem_cons.mpr ⟨lw_p41, List.forall_mem_cons.mpr ⟨lw_p42, List.forall_mem_cons.mpr ⟨lw_p43, List.forall_mem_cons.mpr ⟨lw_p44, List.forall_mem_cons.mpr ⟨lw_p45, List.forall_mem_cons.mpr ⟨lw_p46, List.forall_mem_cons.mpr ⟨lw_p47, fun _ h => absurd h List.not_mem_nil⟩⟩⟩⟩⟩⟩⟩⟩⟩⟩⟩⟩⟩⟩⟩⟩
theorem lw_p48 : lw_okq (⟨"ChordSheetModel", "spells", "(I)I"⟩, 24) := ⟨⟨by decide +kernel, by decide +kernel⟩, List.mem_of_getElem? (i := 1015) (by decide +kernel), List.mem_of_getElem? (i := 1338) (by decide +kernel), List.mem_of_getElem? (i := 1339) (by decide +kernel)⟩
theorem lw_p49 : lw_okq (⟨"ChordSheetModel", "spelled", "(I)I"⟩, 24) := ⟨⟨by decide +kernel, by decide +kernel⟩, List.mem_of_getElem? (i := 1015) (by decide +kernel), List.mem_of_getElem? (i := 1342) (by decide +kernel), List.mem_of_getElem? (i := 1343) (by decide +kernel)⟩
theorem lw_p50 : lw_okq (⟨"ChordSheetModel", "difficultyOf", "(I)I"⟩, 24) := ⟨⟨by decide +kernel, by decide +kernel⟩, List.mem_of_getElem? (i := 1015) (by decide +kernel), List.mem_of_getElem? (i := 1354) (by decide +kernel), List.mem_of_getElem? (i := 1355) (by decide +kernel)⟩
theorem lw_p51 : lw_okq (⟨"ChordSheetModel", "pairsOf", "(I)I"⟩, 24) := ⟨⟨by decide +kernel, by decide +kernel⟩, List.mem_of_getElem? (i := 1015) (by decide +kernel), List.mem_of_getElem? (i := 1369) (by decide +kernel), List.mem_of_getElem? (i := 1370) (by decide +kernel)⟩
theorem lw_p52 : lw_okq (⟨"ChordSheetModel", "endOf", "(II)I"⟩, 24) := ⟨⟨by decide +kernel, by decide +kernel⟩, List.mem_of_getElem? (i := 1015) (by decide +kernel), List.mem_of_getElem? (i := 1373) (by decide +kernel), List.mem_of_getElem? (i := 1374) (by decide +kernel)⟩
theorem lw_p53 : lw_okq (⟨"ChordSheetModel", "isBreak", "(II)Z"⟩, 24) := ⟨⟨by decide +kernel, by decide +kernel⟩, List.mem_of_getElem? (i := 1015) (by decide +kernel), List.mem_of_getElem? (i := 1377) (by decide +kernel), List.mem_of_getElem? (i := 1378) (by decide +kernel)⟩
theorem lw_p54 : lw_okq (⟨"ChordSheetModel", "lays", "(III)V"⟩, 24) := ⟨⟨by decide +kernel, by decide +kernel⟩, List.mem_of_getElem? (i := 1015) (by decide +kernel), List.mem_of_getElem? (i := 1381) (by decide +kernel), List.mem_of_getElem? (i := 1382) (by decide +kernel)⟩
theorem lw_p55 : lw_okq (⟨"ChordSheetModel", "laysChords", "(II)V"⟩, 24) := ⟨⟨by decide +kernel, by decide +kernel⟩, List.mem_of_getElem? (i := 1015) (by decide +kernel), List.mem_of_getElem? (i := 1385) (by decide +kernel), List.mem_of_getElem? (i := 1386) (by decide +kernel)⟩
theorem lw_p56 : lw_okq (⟨"ChordSheetModel", "isRow", "(III)Z"⟩, 24) := ⟨⟨by decide +kernel, by decide +kernel⟩, List.mem_of_getElem? (i := 1015) (by decide +kernel), List.mem_of_getElem? (i := 1393) (by decide +kernel), List.mem_of_getElem? (i := 1394) (by decide +kernel)⟩
theorem lw_p57 : lw_okq (⟨"ChordSheetModel", "laysPair", "(II)V"⟩, 24) := ⟨⟨by decide +kernel, by decide +kernel⟩, List.mem_of_getElem? (i := 1015) (by decide +kernel), List.mem_of_getElem? (i := 1397) (by decide +kernel), List.mem_of_getElem? (i := 1398) (by decide +kernel)⟩
def lw_privs_4 : List (MethodName × Nat) := [(⟨"ChordSheetModel", "spells", "(I)I"⟩, 24), (⟨"ChordSheetModel", "spelled", "(I)I"⟩, 24), (⟨"ChordSheetModel", "difficultyOf", "(I)I"⟩, 24), (⟨"ChordSheetModel", "pairsOf", "(I)I"⟩, 24), (⟨"ChordSheetModel", "endOf", "(II)I"⟩, 24), (⟨"ChordSheetModel", "isBreak", "(II)Z"⟩, 24), (⟨"ChordSheetModel", "lays", "(III)V"⟩, 24), (⟨"ChordSheetModel", "laysChords", "(II)V"⟩, 24), (⟨"ChordSheetModel", "isRow", "(III)Z"⟩, 24), (⟨"ChordSheetModel", "laysPair", "(II)V"⟩, 24)]
theorem lw_r4 : ∀ q ∈ lw_privs_4, lw_okq q := List.forall_mem_cons.mpr ⟨lw_p48, List.forall_mem_cons.mpr ⟨lw_p49, List.forall_mem_cons.mpr ⟨lw_p50, List.forall_mem_cons.mpr ⟨lw_p51, List.forall_mem_cons.mpr ⟨lw_p52, List.forall_mem_cons.mpr ⟨lw_p53, List.forall_mem_cons.mpr ⟨lw_p54, List.forall_mem_cons.mpr ⟨lw_p55, List.forall_mem_cons.mpr ⟨lw_p56, List.forall_mem_cons.mpr ⟨lw_p57, fun _ h => absurd h List.not_mem_nil⟩⟩⟩⟩⟩⟩⟩⟩⟩⟩
def lw_privs : List (MethodName × Nat) := lw_privs_1 ++ (lw_privs_2 ++ (lw_privs_3 ++ (lw_privs_4)))
def lw_tbl : List Cond := k2_sels lw_privs ++ tables_1
theorem lw_privs_ok : ∀ q ∈ lw_privs, lw_okq q := by
  show ∀ q ∈ lw_privs_1 ++ (lw_privs_2 ++ (lw_privs_3 ++ (lw_privs_4))), lw_okq q
  exact List.forall_mem_append.mpr ⟨lw_r1, List.forall_mem_append.mpr ⟨lw_r2, List.forall_mem_append.mpr ⟨lw_r3, lw_r4⟩⟩⟩
-- ===== end of PART A; then your names; then what follows =====
end
section
/-! ===== BEGIN words of one list among another's, by their places ===== -/
theorem goodIn_r {big : List Cond} (ws : List Cond) (ps : List Nat) (hp : ws = ps.filterMap (fun i => big[i]?)) (h : ws.all goodWord = true) : GoodIn big ws := by
  intro w hw
  have h1 := List.all_eq_true.mp h w hw
  rw [hp] at hw
  obtain ⟨i, -, hi⟩ := List.mem_filterMap.mp hw
  have hm : w ∈ big := by first | exact List.mem_of_getElem? hi | exact List.getElem?_mem hi
  exact ⟨hm, good_of_word h1⟩
theorem goodIn_app {big a b : List Cond} (ha : GoodIn big a) (hb : GoodIn big b) : GoodIn big (a ++ b) := fun w h => (List.mem_append.mp h).elim (ha w) (hb w)
theorem goodIn_ca {big a b : List Cond} {c : Cond} (ha : GoodIn big (c :: a)) (hb : GoodIn big b) : GoodIn big (c :: (a ++ b)) := fun w h => (List.mem_cons.mp h).elim (fun e => ha w (List.mem_cons.mpr (Or.inl e))) (fun h => (List.mem_append.mp h).elim (fun h => ha w (List.mem_cons.mpr (Or.inr h))) (hb w))
theorem goodIn_sub {big ws : List Cond} (hm : ∀ w ∈ ws, w ∈ big) (h : ws.all goodWord = true) : GoodIn big ws := fun w hw => ⟨hm w hw, good_of_word (List.all_eq_true.mp h w hw)⟩
/-! ===== END ===== -/
/-! ===== BEGIN exceptions that leave a method, and their catching by the caller (launches without stack traces) ===== -/
section VXA
/-! The laws vx_back, vx_callV, vx_callS, vx_callSW, vx_throw0, vx_throwS follow proofs of the library, with one case more: JvmDerived/Free/Laws.lean (Back.of_free), Shelf42/LK1.lean (callV, callS), Shelf/KitTraced.lean (throwNew0V, throwNewS). -/
/-- where a method has thrown q: the class by its name, the cell, what was written, the world -/
def vx_T (XC : String → State → State → Prop) (st : State) (q : Addr) (t : State) (mc ms : Nat) (free : Addr → Prop) : Prop :=
  ∃ (E : String) (ce : Cell) (L : List Loc), XC E st t ∧ t.heap[q]? = some ce ∧ ce.vm = .none ∧ st.vm.findClass E = some ce.cls ∧ st.WarmedH t.vm ∧ st.sameButNew ({ t with vm := st.vm } : State) L mc ms ∧ ∀ z ∈ L, free z.base
def vx_Q (Qc : Array Value → State → Outcome → State → Prop) (XC : String → State → State → Prop) (mc ms : Nat) (free : Addr → Prop) : Array Value → State → Outcome → State → Prop := fun a st o t =>
  (Qc a st o t ∧ ∃ L, FrameEnd st o t L mc ms ∧ ∀ q ∈ L, free q.base) ∨ ∃ q, o = .threw q ∧ vx_T XC st q t mc ms free
/-- a callee that returns or throws -/
def vx_Met (l : Launch) (y : MethodName) (ws : List Cond) (rm : Room) (Pc : Array Value → State → Prop) (Qc : Array Value → State → Outcome → State → Prop) (XC : String → State → State → Prop) (mc ms : Nat) (free : Addr → Prop) : Prop :=
  MetFree l y (headSpec ws rm) Pc (fun _ _ _ _ _ => True) (vx_Q Qc XC mc ms free)
def vx_Post (XC : String → State → State → Prop) (mc ms : Nat) (free : Addr → Prop) : Pt → Array Value → Addr → Pt → Prop := fun A a q B =>
  ∃ (g : JFrame) (mk : MethodId) (t : State) (L : List Loc) (E : String) (ce : Cell), B.U.heap = t.heap ∧ B.U.vm = t.vm ∧ XC E (A.U.calling g mk a) t ∧ t.heap[q]? = some ce ∧ ce.vm = .none ∧ A.U.vm.findClass E = some ce.cls ∧ B.locs = A.locs ++ L ∧ (∀ z ∈ L, free z.base) ∧ B.cells = A.cells + mc ∧ B.slots = A.slots + ms
def vx_Back (l : Launch) (R : Room) (p : Program) (e : Env) (below : List Frame) (s : State) (sargs : Array Value) (y : MethodName) (len W9 : Nat)
    (Pre : Pt → Array Value → Prop) (Post : Pt → Array Value → Option Value → Pt → Prop) (PostX : Pt → Array Value → Addr → Pt → Prop) : Prop :=
  ∀ (m : MethodId) (meth : Method) (c : Code) (A : Pt) (g : JFrame) (ig : Instr) (mk : MethodId) (a : Array Value),
    Stand p l e R s m sargs below meth c A.U A.locs A.cells A.slots → g.method = m → g.locals.size = c.maxLocals → decode c.code g.pc = .ok (ig, len) →
    2 * g.monitorRoom + (g.stack.map fun v => v.category).sum ≤ W9 → A.U.methodNamed? y = some mk → Pre A a →
    (∃ (v : Option Value) (B : Pt), Stand p l e R s m sargs below meth c B.U B.locs B.cells B.slots ∧ Post A a v B ∧
      Steps p.tables e below (doInvoke e (A.U.setTop g) [] mk a).1 (B.U.setTop { g with pc := g.pc + len, stack := v.toList ++ g.stack })) ∨
    (∃ (q : Addr) (B : Pt), Stand p l e R s m sargs below meth c B.U B.locs B.cells B.slots ∧ PostX A a q B ∧
      Steps p.tables e below (doInvoke e (A.U.setTop g) [] mk a).1 ((B.U.setTop g).pushFrame (.throwing q)))
section Payer
variable {l : Launch} {R : Room} {p : Program} {e : Env} {below : List Frame} {s : State} {sargs : Array Value} {y : MethodName} {len W9 : Nat}
theorem vx_back {ws : List Cond} {rm : Room} {Pc : Array Value → State → Prop} {Qc : Array Value → State → Outcome → State → Prop} {XC : String → State → State → Prop} {mc ms : Nat} {free : Addr → Prop} {bytes : ByteArray} {maxL : Nat} {ret : Option FieldType}
    (hM : vx_Met l y ws rm Pc Qc XC mc ms free) (hblind : FrameBlind Pc) (hrc : rm.cells = mc) (hrs : rm.slots = ms)
    (hframes : rm.frames + 1 ≤ R.frames) (hlocals : W9 + (maxL + 11) + rm.locals ≤ R.locals)
    (hws : ∀ w ∈ ws, ∀ a' U, s.WarmedH U.vm → w.before a' U = true) (hcode : Cond.code y bytes maxL ret ∈ ws) (hinit : ∀ a' U, s.WarmedH U.vm → (Cond.initialized y.cls).before a' U = true) :
    vx_Back l R p e below s sargs y len W9 (PreOf R mc ms Pc) (PostOf Qc mc ms free) (vx_Post XC mc ms free) := by
  intro m meth c A g ig mk a X hg hsize hdg hW hn hp
  have h1 : (headSpec ws rm).pre.before a A.U = true := atoms_intro fun w hw => hws w hw _ _ X.warmed
  have h2 : (Cond.code y bytes maxL ret).before a A.U = true := hws _ hcode _ _ X.warmed
  have h3 : (Cond.initialized y.cls).before a A.U = true := hinit _ _ X.warmed
  have h4 : A.cells + (headSpec ws rm).room.cells ≤ R.cells := by rw [show (headSpec ws rm).room.cells = mc from hrc]; exact hp.1
  have h5 : A.slots + (headSpec ws rm).room.slots ≤ R.slots := by rw [show (headSpec ws rm).room.slots = ms from hrs]; exact hp.2.1
  have hPc : Pc a (A.U.calling g mk a) := hblind _ _ _ _ hp.2.2
  obtain ⟨U, Ls, c0, s0⟩ := A
  dsimp only [Pt.U, Pt.locs, Pt.cells, Pt.slots] at h1 h2 h3 h4 h5 X hn hPc ⊢
  obtain ⟨methY, cY, hmY, hcY, -, hlY, -, -, -, -⟩ := Cond.code_spec hn h2
  obtain ⟨kY, hkY, -⟩ := className_of_methodNamed hn
  have hinitY : kY.init = .initialized := Cond.initialized_spec (findClass_of_methodNamed hn) hkY h3
  have h : At U g.method c below := by rw [hg]; exact X.here
  have hlocals9 : W9 + (maxL + 11) + (headSpec ws rm).room.locals ≤ R.locals := hlocals
  have happ : (headSpec ws rm).appliesLoose y e.platform (U.calling g mk a) = true :=
    Spec.appliesLoose_calling (g := g) h hdg hn hkY hinitY
      (X.room_calling (g := g) (R' := (headSpec ws rm).room) hsize hmY hcY hframes (by rw [hlY]; omega) h4 h5) h1
  obtain ⟨mid, hmid⟩ := h.above
  have hfr : (U.setTop g).frames = (.java g :: mid) ++ below := by rw [State.frames_setTop' g h.top, hmid]; rfl
  obtain ⟨o, s₂, hsteps, -, hend, hq⟩ := Steps.callFree hM p X.admits X.cas X.clock (acts := []) hfr happ hPc trivial
  have hq' : vx_Q Qc XC mc ms free a (U.calling g mk a) o s₂ := hq
  rw [State.frames_setTop' g h.top] at hend
  obtain ⟨g₀, hg0⟩ := Option.isSome_iff_exists.mp h.top
  obtain ⟨r, hr⟩ := State.topJava?_eq_some.mp hg0
  have hr' : (({ U with heap := s₂.heap, slotsUsed := s₂.slotsUsed } : State).setVm s₂.vm).frames = .java g₀ :: r := hr
  rcases hq' with ⟨hqc, L, hfe, hL⟩ | ⟨q, rfl, E, ce, L, hx, hce, hcv, hcl, hW₂, hsm, hL⟩
  · obtain ⟨⟨v, rfl⟩, hW₂, e2, q2, q3, q4, q5, q6⟩ := id hfe
    have e3 : s₂ = ({ (U.calling g mk a).setFrames s₂.frames with heap := s₂.heap, slotsUsed := s₂.slotsUsed } : State).setVm s₂.vm := by
      have : s₂ = ({ s₂ with vm := (U.calling g mk a).vm } : State).setVm s₂.vm := rfl
      rw [e2] at this
      exact this
    obtain ⟨c₂, i₂, len₂, hc₂, hd₂, hf₂⟩ := hend
    have hW' : U.WarmedH s₂.vm := hW₂
    have hcc : c₂ = c := by
      have h1 : s₂.code? g.method = U.code? g.method := by
        rw [State.code?_eq, State.code?_eq, hW'.alike.method?]
      exact Option.some.inj (hc₂.symm.trans (h1.trans h.code))
    subst hcc
    have hlen : len₂ = len := by rw [hdg] at hd₂; cases hd₂; rfl
    subst hlen
    have hs₂ : s₂ = (({ U with heap := s₂.heap, slotsUsed := s₂.slotsUsed } : State).setVm s₂.vm).setTop { g with pc := g.pc + len₂, stack := v.toList ++ g.stack } := by
      refine e3.trans ?_
      rw [hf₂, State.calling_eq h.top, State.setFrames_setFrames, State.setTop_of_frames _ hr', hr]
      rfl
    have hsame : U.sameButNew ({ U with heap := s₂.heap, slotsUsed := s₂.slotsUsed } : State) L mc ms := by
      refine ⟨?_, q2, q3, q4, q5, q6⟩
      obtain ⟨t, ht, -⟩ := State.frames_cons hr
      show ({ U with heap := s₂.heap, slotsUsed := s₂.slotsUsed } : State) = { U.setFrames U.frames with heap := s₂.heap, slotsUsed := s₂.slotsUsed }
      rw [State.setFrames_self ht]
    subst hg
    refine Or.inl ⟨v, ⟨(({ U with heap := s₂.heap, slotsUsed := s₂.slotsUsed } : State).setVm s₂.vm), Ls ++ L, c0 + mc, s0 + ms⟩,
      ⟨X.admits, X.cas, X.clock, X.frames, X.room, X.hears, X.method, X.code, (X.here.setHeapUsed s₂.heap s₂.slotsUsed).setVm hW'.alike, X.tail, State.WarmedH.trans X.warmed hW', X.limits, X.bytes, X.same.trans (hsame.setVm s.vm)⟩,
      ⟨g, mk, s₂, L, rfl, rfl, hqc, rfl, hL, rfl, rfl⟩, ?_⟩
    show Steps p.tables e below _ ((({ U with heap := s₂.heap, slotsUsed := s₂.slotsUsed } : State).setVm s₂.vm).setTop { g with pc := g.pc + len₂, stack := v.toList ++ g.stack })
    rw [← hs₂]
    exact hsteps
  · obtain ⟨e2, q2, q3, q4, q5, q6⟩ := id hsm
    have e3 : s₂ = ({ (U.calling g mk a).setFrames s₂.frames with heap := s₂.heap, slotsUsed := s₂.slotsUsed } : State).setVm s₂.vm := by
      have : s₂ = ({ s₂ with vm := (U.calling g mk a).vm } : State).setVm s₂.vm := rfl
      rw [e2] at this
      exact this
    have hf₂ : s₂.frames = .throwing q :: .java g :: U.frames.tail := hend
    have hW' : U.WarmedH s₂.vm := hW₂
    have hs₂ : s₂ = ((({ U with heap := s₂.heap, slotsUsed := s₂.slotsUsed } : State).setVm s₂.vm).setTop g).pushFrame (.throwing q) := by
      refine e3.trans ?_
      rw [hf₂, State.calling_eq h.top, State.setFrames_setFrames, State.pushFrame, State.frames_setTop _ hr', State.setTop_of_frames _ hr', State.setFrames_setFrames, hr]
      rfl
    have hsame : U.sameButNew ({ U with heap := s₂.heap, slotsUsed := s₂.slotsUsed } : State) L mc ms := by
      refine ⟨?_, q2, q3, q4, q5, q6⟩
      obtain ⟨t, ht, -⟩ := State.frames_cons hr
      show ({ U with heap := s₂.heap, slotsUsed := s₂.slotsUsed } : State) = { U.setFrames U.frames with heap := s₂.heap, slotsUsed := s₂.slotsUsed }
      rw [State.setFrames_self ht]
    subst hg
    refine Or.inr ⟨q, ⟨(({ U with heap := s₂.heap, slotsUsed := s₂.slotsUsed } : State).setVm s₂.vm), Ls ++ L, c0 + mc, s0 + ms⟩,
      ⟨X.admits, X.cas, X.clock, X.frames, X.room, X.hears, X.method, X.code, (X.here.setHeapUsed s₂.heap s₂.slotsUsed).setVm hW'.alike, X.tail, State.WarmedH.trans X.warmed hW', X.limits, X.bytes, X.same.trans (hsame.setVm s.vm)⟩,
      ⟨g, mk, s₂, L, E, ce, rfl, rfl, hx, hce, hcv, hcl, rfl, hL, rfl, rfl⟩, ?_⟩
    show Steps p.tables e below _ (((({ U with heap := s₂.heap, slotsUsed := s₂.slotsUsed } : State).setVm s₂.vm).setTop g).pushFrame (.throwing q))
    rw [← hs₂]
    exact hsteps
end Payer
section Calls
variable {p : Program} {l : Launch} {e : Env} {R : Room} {s : State} {m : MethodId} {args : Array Value} {below : List Frame} {meth : Method} {c : Code} {T : State} {locs : List Loc} {cells slots : Nat}
theorem vx_callV (X : Stand p l e R s m args below meth c T locs cells slots) (hexec : p.tables.exec = Jvm.exec) {own C : String} {index : Nat} {y : MethodName} {bytes : ByteArray} {maxL : Nat} {ret : Option FieldType}
    (hown : s.vm.findClass own = some m.cls) (hlink : (Cond.methodLink own index y).before args s = true) (hinst : (Cond.instanceMethod y).before args s = true) (hsel : (Cond.selects C y y).before args s = true)
    (hcode : (Cond.code y bytes maxL ret).before args s = true) (hy : y.cls ≠ "java/lang/invoke/MethodHandle" ∧ y.cls ≠ "java/lang/invoke/VarHandle")
    {W9 : Nat} {Pre : Pt → Array Value → Prop} {Post : Pt → Array Value → Option Value → Pt → Prop} {PostX : Pt → Array Value → Addr → Pt → Prop} (hK : vx_Back l R p e below s args y 3 W9 Pre Post PostX)
    {b : Addr} {cellB : Cell} (hcell : T.heap[b]? = some cellB) (hobj : cellB.vm.isStatics = false) (hcls : s.vm.findClass C = some cellB.cls)
    {g : JFrame} (hg : g.method = m) (hsize : g.locals.size = c.maxLocals) {argsL rest : List Value} (hlen : ∀ sig, parseMethodDescriptor y.desc = some sig → argsL.length = sig.parameters.length)
    (hstack : g.stack = argsL.reverse ++ .ref b :: rest) (hW : 2 * g.monitorRoom + (rest.map fun v => v.category).sum ≤ W9) (hdg : decode c.code g.pc = .ok (.invokevirtual index, 3))
    (hpre : ∀ vm₁, s.WarmedH vm₁ → Pre ⟨T.setVm vm₁, locs, cells, slots⟩ (Value.ref b :: argsL).toArray) :
    (∃ (v : Option Value) (vm₁ : Vm) (B : Pt), s.WarmedH vm₁ ∧ Stand p l e R s m args below meth c B.U B.locs B.cells B.slots ∧ Post ⟨T.setVm vm₁, locs, cells, slots⟩ (Value.ref b :: argsL).toArray v B ∧
      ∀ target, Steps p.tables e below (B.U.setTop { g with pc := g.pc + 3, stack := v.toList ++ rest }) target → Steps p.tables e below (T.setTop g) target) ∨
    (∃ (q : Addr) (vm₁ : Vm) (B : Pt), s.WarmedH vm₁ ∧ Stand p l e R s m args below meth c B.U B.locs B.cells B.slots ∧ PostX ⟨T.setVm vm₁, locs, cells, slots⟩ (Value.ref b :: argsL).toArray q B ∧
      Steps p.tables e below (T.setTop g) ((B.U.setTop { g with stack := rest }).pushFrame (.throwing q))) := by
  obtain ⟨mk, methM, hnamed, hmethM, hstM, habM⟩ := Cond.instanceMethod_spec hinst
  obtain ⟨methM', cM, hmethM', -, -, -, -, -, -, hsigM⟩ := Cond.code_spec hnamed hcode
  cases hmethM.symm.trans hmethM'
  obtain ⟨c2, r2, m2, q1, q2, q3, q4, kP, hkP, hkPi⟩ := Cond.selects_spec hsel
  cases hcls.symm.trans q1
  cases (State.methodFound?_of_named hnamed hy).symm.trans q2
  cases hnamed.symm.trans q3
  have hselP : selectMethod e.platform s.vm cellB.cls mk = .method mk := by rw [Launch.admits_selectMethod X.admits]; exact q4
  obtain ⟨vm₁, X₁, hstep₁⟩ := X.invokevirtual hexec hown hlink hnamed hmethM hstM hkP hkPi hy (a := b) (cell := cellB) hcell
    (fun z h => by rw [h] at hobj; cases hobj) hselP hmethM habM hkP hkPi (g := g) hg (argsL := argsL) (rest := rest) (hlen _ hsigM) hstack hdg
  rcases hK m meth c ⟨T.setVm vm₁, locs, cells, slots⟩ { g with stack := rest } (.invokevirtual index) mk (Value.ref b :: argsL).toArray X₁ hg hsize hdg hW (X₁.named hnamed) (hpre vm₁ X₁.warmed) with ⟨v, B, X', hpost, hsteps⟩ | ⟨q, B, X', hpost, hsteps⟩
  · exact Or.inl ⟨v, vm₁, B, X₁.warmed, X', hpost, fun target h => hstep₁ _ fun acts => by rw [doInvoke_state]; exact hsteps.trans h⟩
  · exact Or.inr ⟨q, vm₁, B, X₁.warmed, X', hpost, hstep₁ _ fun acts => by rw [doInvoke_state]; exact hsteps⟩
theorem vx_callS (X : Stand p l e R s m args below meth c T locs cells slots) (hexec : p.tables.exec = Jvm.exec) {own : String} {index : Nat} {y : MethodName} {bytes : ByteArray} {maxL : Nat} {ret : Option FieldType}
    (hown : s.vm.findClass own = some m.cls) (hlink : (Cond.methodLink own index y).before args s = true) (hstat : (Cond.static y).before args s = true) (hinit : (Cond.initialized y.cls).before args s = true)
    (hcode : (Cond.code y bytes maxL ret).before args s = true) (hy : y.cls ≠ "java/lang/invoke/MethodHandle" ∧ y.cls ≠ "java/lang/invoke/VarHandle")
    {W9 : Nat} {Pre : Pt → Array Value → Prop} {Post : Pt → Array Value → Option Value → Pt → Prop} {PostX : Pt → Array Value → Addr → Pt → Prop} (hK : vx_Back l R p e below s args y 3 W9 Pre Post PostX)
    {g : JFrame} (hg : g.method = m) (hsize : g.locals.size = c.maxLocals) {argsL rest : List Value} (hlen : ∀ sig, parseMethodDescriptor y.desc = some sig → argsL.length = sig.parameters.length)
    (hstack : g.stack = argsL.reverse ++ rest) (hW : 2 * g.monitorRoom + (rest.map fun v => v.category).sum ≤ W9) (hdg : decode c.code g.pc = .ok (.invokestatic index, 3))
    (hpre : ∀ vm₁, s.WarmedH vm₁ → Pre ⟨T.setVm vm₁, locs, cells, slots⟩ argsL.toArray) :
    (∃ (v : Option Value) (vm₁ : Vm) (B : Pt), s.WarmedH vm₁ ∧ Stand p l e R s m args below meth c B.U B.locs B.cells B.slots ∧ Post ⟨T.setVm vm₁, locs, cells, slots⟩ argsL.toArray v B ∧
      ∀ target, Steps p.tables e below (B.U.setTop { g with pc := g.pc + 3, stack := v.toList ++ rest }) target → Steps p.tables e below (T.setTop g) target) ∨
    (∃ (q : Addr) (vm₁ : Vm) (B : Pt), s.WarmedH vm₁ ∧ Stand p l e R s m args below meth c B.U B.locs B.cells B.slots ∧ PostX ⟨T.setVm vm₁, locs, cells, slots⟩ argsL.toArray q B ∧
      Steps p.tables e below (T.setTop g) ((B.U.setTop { g with stack := rest }).pushFrame (.throwing q))) := by
  obtain ⟨mk, hnamed⟩ := Cond.code_named hcode
  obtain ⟨methM, cM, hmethM, -, -, -, -, -, -, hsigM⟩ := Cond.code_spec hnamed hcode
  have hstatic : methM.isStatic = true := Cond.static_spec hnamed hmethM hstat
  obtain ⟨kP, hkP, -⟩ := className_of_methodNamed hnamed
  have hinitP : kP.init = .initialized := Cond.initialized_spec (findClass_of_methodNamed hnamed) hkP hinit
  obtain ⟨vm₁, X₁, hstep₁⟩ := X.invokestatic hexec hown hlink hnamed hmethM hstatic hkP hinitP hy (g := g) hg (argsL := argsL) (rest := rest) (hlen _ hsigM) hstack hdg
  rcases hK m meth c ⟨T.setVm vm₁, locs, cells, slots⟩ { g with stack := rest } (.invokestatic index) mk argsL.toArray X₁ hg hsize hdg hW (X₁.named hnamed) (hpre vm₁ X₁.warmed) with ⟨v, B, X', hpost, hsteps⟩ | ⟨q, B, X', hpost, hsteps⟩
  · exact Or.inl ⟨v, vm₁, B, X₁.warmed, X', hpost, fun target h => hstep₁ _ fun acts => by rw [doInvoke_state]; exact hsteps.trans h⟩
  · exact Or.inr ⟨q, vm₁, B, X₁.warmed, X', hpost, hstep₁ _ fun acts => by rw [doInvoke_state]; exact hsteps⟩
end Calls
theorem vx_cls {s : State} {T : State} {vm₁ : Vm} {E : String} {k : ClassId} (hW : s.WarmedH vm₁) (h : (T.setVm vm₁).vm.findClass E = some k) : s.vm.findClass E = some k := by
  have h1 : vm₁.findClass E = some k := h
  rw [hW.alike.findClass] at h1
  exact h1
/-- the method's frame g, with q thrown over it -/
def vx_W (p : Program) (l : Launch) (e : Env) (R : Room) (s : State) (m : MethodId) (args : Array Value) (below : List Frame) (meth : Method) (c : Code) (H : Heap) (locs : List Loc) (cells slots : Nat) (Q : State → Prop) (g : JFrame) (q : Addr) : Prop :=
  ∀ T : State, T.heap = H → Stand p l e R s m args below meth c T locs cells slots → ∃ t, Steps p.tables e below ((T.setTop g).pushFrame (.throwing q)) t ∧ Q t
def vx_Run (p : Program) (l : Launch) (e : Env) (R : Room) (s : State) (m : MethodId) (args : Array Value) (below : List Frame) (meth : Method) (c : Code) (H : Heap) (locs : List Loc) (cells slots mc ms : Nat) (g : JFrame) (rest : List Value) (Qa : State → Outcome → State → Prop) (XC : String → State → State → Prop) (free : Addr → Prop) : Prop :=
  ∀ T : State, T.heap = H → Stand p l e R s m args below meth c T locs cells slots →
    (∃ (v : Option Value) (st₀ t T' : State) (L : List Loc), st₀.heap = H ∧ Stand p l e R s m args below meth c T' (locs ++ L) (cells + mc) (slots + ms) ∧ (∀ q ∈ L, free q.base) ∧ T'.heap = t.heap ∧ T'.vm = t.vm ∧ Qa st₀ (.returned v) t ∧
      Goes p e below T g T' { g with pc := g.pc + 3, stack := v.toList ++ rest }) ∨
    (∃ (q : Addr) (st₀ t T' : State) (L : List Loc) (E : String) (ce : Cell), st₀.heap = H ∧ Stand p l e R s m args below meth c T' (locs ++ L) (cells + mc) (slots + ms) ∧ (∀ z ∈ L, free z.base) ∧ T'.heap = t.heap ∧ T'.vm = t.vm ∧ XC E st₀ t ∧ t.heap[q]? = some ce ∧ ce.vm = .none ∧ s.vm.findClass E = some ce.cls ∧
      Steps p.tables e below (T.setTop g) ((T'.setTop { g with stack := rest }).pushFrame (.throwing q)))
def vx_X {S : Type} (px : S → Prop) (B : String → S → State → Prop) (A : Nat → Prop) : String → State → State → Prop := fun E st t => ∃ u : S, px u ∧ B E u t ∧ va_F A st t
section Runs
variable {p : Program} {l : Launch} {e : Env} {R : Room} {s : State} {m : MethodId} {args : Array Value} {below : List Frame} {meth : Method} {c : Code} {H : Heap} {locs : List Loc} {cells slots : Nat}
variable {y : MethodName} {bytes cc : ByteArray} {maxL nL mc ms n index : Nat} {ret : Option FieldType} {ws : List Cond} {rm : Room} {Pc : Array Value → State → Prop} {Qc : Array Value → State → Outcome → State → Prop} {XC : String → State → State → Prop} {free : Addr → Prop} {Ts : List Cond} {own C : String} {b : Addr} {As rest : List Value} {g : JFrame}
theorem vx_callBack (cb : CallB R s args own index y bytes maxL ret ws rm mc ms n) (hM : vx_Met l y ws rm Pc Qc XC mc ms free) (hbl : FrameBlind Pc) : vx_Back l R p e below s args y 3 8 (PreOf R mc ms Pc) (PostOf Qc mc ms free) (vx_Post XC mc ms free) := by
  obtain ⟨hrc, hrs, hfr, hlo, hws, hcw, -, hini, -⟩ := cb
  exact vx_back (bytes := bytes) (maxL := maxL) (ret := ret) hM hbl hrc hrs hfr hlo hws hcw (fun a' U hW => word_at hW (Or.inl (by first | rfl | simp [Cond.onTables, Cond.keeps, Cond.steady])) hini)
theorem vx_runV (S : CallFix p m c cc nL s args Ts own) (hM : vx_Met l y ws rm Pc Qc XC mc ms free) (cw : CallW R s args own C index y bytes maxL ret ws rm mc ms n) (hp : PreV s H C b Pc As)
    (hg : g.method = m) (hn : As.length = n) (hsize : g.locals.size = nL) (hstack : g.stack = As.reverse ++ .ref b :: rest) (hW : 2 * g.monitorRoom + (rest.map fun v => v.category).sum ≤ 8) (hdg : decode cc g.pc = .ok (.invokevirtual index, 3)) (hf : cells + mc ≤ R.cells ∧ slots + ms ≤ R.slots) :
    vx_Run p l e R s m args below meth c H locs cells slots mc ms g rest (Qc (Value.ref b :: As).toArray) XC free := by
  have hK : vx_Back l R p e below s args y 3 8 (PreOf R mc ms Pc) (PostOf Qc mc ms free) (vx_Post XC mc ms free) := vx_callBack cw.1 hM hp.1
  obtain ⟨⟨-, -, -, -, -, -, hcode, -, hy, hlen, hl⟩, hin, hse⟩ := cw
  obtain ⟨hx, hb, hml, ho, -⟩ := S
  obtain ⟨-, ⟨cellB, hcB, hoB, hclB⟩, hPc⟩ := hp
  intro T hT X
  rcases vx_callV X hx (C := C) (bytes := bytes) (maxL := maxL) (ret := ret) ho hl hin hse hcode hy hK (by rw [hT]; exact hcB) hoB hclB hg (hsize.trans hml.symm) (argsL := As) (rest := rest) (fun sig h => hn.trans (hlen sig h)) hstack hW (by rw [hb]; exact hdg)
    (fun vm₁ hW₁ => ⟨hf.1, hf.2, hPc (T.setVm vm₁) hT hW₁⟩) with ⟨v, vm₁, ⟨U', l2, c2, s2⟩, hW₁, X', ⟨g', mk, t, L, e1, e2, hq, h1, hL, h2, h3⟩, st⟩ | ⟨q, vm₁, ⟨U', l2, c2, s2⟩, hW₁, X', ⟨g', mk, t, L, E, ce, e1, e2, hq, hce, hcv, hcl, h1, hL, h2, h3⟩, st⟩
  · dsimp only [Pt.U, Pt.locs, Pt.cells, Pt.slots] at X' e1 e2 h1 h2 h3 st
    subst h1; subst h2; subst h3
    exact Or.inl ⟨v, (T.setVm vm₁).calling g' mk (Value.ref b :: As).toArray, t, U', L, hT, X', hL, e1, e2, hq, st⟩
  · dsimp only [Pt.U, Pt.locs, Pt.cells, Pt.slots] at X' e1 e2 h1 h2 h3 st hcl
    subst h1; subst h2; subst h3
    exact Or.inr ⟨q, (T.setVm vm₁).calling g' mk (Value.ref b :: As).toArray, t, U', L, E, ce, hT, X', hL, e1, e2, hq, hce, hcv, vx_cls hW₁ hcl, st⟩
theorem vx_runS (S : CallFix p m c cc nL s args Ts own) (hM : vx_Met l y ws rm Pc Qc XC mc ms free) (cw : CallB R s args own index y bytes maxL ret ws rm mc ms n ∧ (Cond.static y).before args s = true) (hp : PreS s H Pc As)
    (hg : g.method = m) (hn : As.length = n) (hsize : g.locals.size = nL) (hstack : g.stack = As.reverse ++ rest) (hW : 2 * g.monitorRoom + (rest.map fun v => v.category).sum ≤ 8) (hdg : decode cc g.pc = .ok (.invokestatic index, 3)) (hf : cells + mc ≤ R.cells ∧ slots + ms ≤ R.slots) :
    vx_Run p l e R s m args below meth c H locs cells slots mc ms g rest (Qc As.toArray) XC free := by
  have hK : vx_Back l R p e below s args y 3 8 (PreOf R mc ms Pc) (PostOf Qc mc ms free) (vx_Post XC mc ms free) := vx_callBack cw.1 hM hp.1
  obtain ⟨⟨-, -, -, -, -, -, hcode, hini, hy, hlen, hl⟩, hstt⟩ := cw
  obtain ⟨hx, hb, hml, ho, -⟩ := S
  intro T hT X
  rcases vx_callS X hx (bytes := bytes) (maxL := maxL) (ret := ret) ho hl hstt hini hcode hy hK hg (hsize.trans hml.symm) (argsL := As) (rest := rest) (fun sig h => hn.trans (hlen sig h)) hstack hW (by rw [hb]; exact hdg)
    (fun vm₁ hW₁ => ⟨hf.1, hf.2, hp.2 (T.setVm vm₁) hT hW₁⟩) with ⟨v, vm₁, ⟨U', l2, c2, s2⟩, hW₁, X', ⟨g', mk, t, L, e1, e2, hq, h1, hL, h2, h3⟩, st⟩ | ⟨q, vm₁, ⟨U', l2, c2, s2⟩, hW₁, X', ⟨g', mk, t, L, E, ce, e1, e2, hq, hce, hcv, hcl, h1, hL, h2, h3⟩, st⟩
  · dsimp only [Pt.U, Pt.locs, Pt.cells, Pt.slots] at X' e1 e2 h1 h2 h3 st
    subst h1; subst h2; subst h3
    exact Or.inl ⟨v, (T.setVm vm₁).calling g' mk As.toArray, t, U', L, hT, X', hL, e1, e2, hq, st⟩
  · dsimp only [Pt.U, Pt.locs, Pt.cells, Pt.slots] at X' e1 e2 h1 h2 h3 st hcl
    subst h1; subst h2; subst h3
    exact Or.inr ⟨q, (T.setVm vm₁).calling g' mk As.toArray, t, U', L, E, ce, hT, X', hL, e1, e2, hq, hce, hcv, vx_cls hW₁ hcl, st⟩
end Runs
section Rows
variable {p : Program} {l : Launch} {e : Env} {R : Room} {s : State} {m : MethodId} {args : Array Value} {below : List Frame} {meth : Method} {c : Code} {H : Heap} {locs : List Loc} {cells slots : Nat} {Q : State → Prop}
variable {mc ms : Nat} {free : Addr → Prop} {A0 A1 : Nat → Prop} {H0 : Heap} {a : Array Value} {pc : Nat} {ls : Array Slot} {st0 rest : List Value}
theorem vx_keep {st₀ t T' : State} {L : List Loc} (h0 : st₀.heap = H) (e1 : T'.heap = t.heap) (hS : va_S A0 H0 H locs) (hA : ∀ q, q < H.size → A1 q → A0 q) (hf : ∀ q, free q → A0 q) (hL : ∀ q ∈ L, free q.base) (hF : va_F A1 st₀ t) :
    H.size ≤ T'.heap.size ∧ (∀ q : Nat, q < H.size → ¬ A1 q → T'.heap[q]? = H[q]?) ∧ va_S A0 H0 T'.heap (locs ++ L) := by
  obtain ⟨hz, hk⟩ := hF
  rw [h0] at hz hk
  exact ⟨by rw [e1]; exact hz, fun q h1 h2 => by rw [e1]; exact hk q h1 h2,
    ⟨Nat.le_trans hS.1 (by rw [e1]; exact hz), fun q h1 h2 => by rw [e1, hk q (Nat.lt_of_lt_of_le h1 hS.1) (fun z => h2 (hA q (Nat.lt_of_lt_of_le h1 hS.1) z))]; exact hS.2.1 q h1 h2, fun q hq => by
      rcases List.mem_append.mp hq with h | h
      · exact hS.2.2 q h
      · exact hf _ (hL q h)⟩⟩
theorem vx_calli {S SX : Type} {post : Int32 → S → Prop} {px : SX → Prop} {B : S → State → Prop} {BX : String → SX → State → Prop} {AX : Nat → Prop} (hr : vx_Run p l e R s m args below meth c H locs cells slots mc ms (F0 m pc ls st0) rest (va_Qi post B A1 a) (vx_X px BX AX) free) (hS : va_S A0 H0 H locs) (hA : ∀ q, q < H.size → A1 q → A0 q) (hf : ∀ q, free q → A0 q) (hAX : ∀ q, q < H.size → AX q → A0 q)
    (kx : ∀ (E : String) (ce : Cell) (q9 : Addr) (u : SX) (t : State) (H1 : Heap) (locs1 : List Loc), t.heap = H1 → s.vm.Alike t.vm → px u → BX E u t → H.size ≤ H1.size → (∀ q : Nat, q < H.size → ¬ AX q → H1[q]? = H[q]?) → va_S A0 H0 H1 locs1 → H1[q9]? = some ce → ce.vm = .none → s.vm.findClass E = some ce.cls → vx_W p l e R s m args below meth c H1 locs1 (cells + mc) (slots + ms) Q (F0 m pc ls rest) q9)
    (kk : ∀ (r : Int32) (u : S) (t : State) (H1 : Heap) (locs1 : List Loc), t.heap = H1 → s.vm.Alike t.vm → post r u → B u t → H.size ≤ H1.size → (∀ q : Nat, q < H.size → ¬ A1 q → H1[q]? = H[q]?) → va_S A0 H0 H1 locs1 → W p l e R s m args below meth c H1 locs1 (cells + mc) (slots + ms) Q (F0 m (pc + 3) ls (.int r :: rest))) : W p l e R s m args below meth c H locs cells slots Q (F0 m pc ls st0) := by
  intro T hT X
  rcases hr T hT X with ⟨v, st₀, t, T', L, h0, X', hL, e1, e2, ⟨⟨r, u, hv, hp, hb⟩, hF⟩, st⟩ | ⟨q, st₀, t, T', L, E, ce, h0, X', hL, e1, e2, ⟨u, hp, hb, hF⟩, hce, hcv, hcl, st⟩
  · cases hv
    obtain ⟨k1, k2, k3⟩ := vx_keep h0 e1 hS hA hf hL hF
    obtain ⟨t2, a1, b1⟩ := kk r u t T'.heap (locs ++ L) e1.symm (by rw [← e2]; exact X'.warmed.alike) hp hb k1 k2 k3 T' rfl X'
    exact ⟨t2, st t2 a1, b1⟩
  · obtain ⟨k1, k2, k3⟩ := vx_keep h0 e1 hS hAX hf hL hF
    obtain ⟨t2, a1, b1⟩ := kx E ce q u t T'.heap (locs ++ L) e1.symm (by rw [← e2]; exact X'.warmed.alike) hp hb k1 k2 k3 (by rw [e1]; exact hce) hcv hcl T' rfl X'
    exact ⟨t2, st.trans a1, b1⟩
theorem vx_calll {S SX : Type} {post : Int64 → S → Prop} {px : SX → Prop} {B : S → State → Prop} {BX : String → SX → State → Prop} {AX : Nat → Prop} (hr : vx_Run p l e R s m args below meth c H locs cells slots mc ms (F0 m pc ls st0) rest (va_Ql post B A1 a) (vx_X px BX AX) free) (hS : va_S A0 H0 H locs) (hA : ∀ q, q < H.size → A1 q → A0 q) (hf : ∀ q, free q → A0 q) (hAX : ∀ q, q < H.size → AX q → A0 q)
    (kx : ∀ (E : String) (ce : Cell) (q9 : Addr) (u : SX) (t : State) (H1 : Heap) (locs1 : List Loc), t.heap = H1 → s.vm.Alike t.vm → px u → BX E u t → H.size ≤ H1.size → (∀ q : Nat, q < H.size → ¬ AX q → H1[q]? = H[q]?) → va_S A0 H0 H1 locs1 → H1[q9]? = some ce → ce.vm = .none → s.vm.findClass E = some ce.cls → vx_W p l e R s m args below meth c H1 locs1 (cells + mc) (slots + ms) Q (F0 m pc ls rest) q9)
    (kk : ∀ (r : Int64) (u : S) (t : State) (H1 : Heap) (locs1 : List Loc), t.heap = H1 → s.vm.Alike t.vm → post r u → B u t → H.size ≤ H1.size → (∀ q : Nat, q < H.size → ¬ A1 q → H1[q]? = H[q]?) → va_S A0 H0 H1 locs1 → W p l e R s m args below meth c H1 locs1 (cells + mc) (slots + ms) Q (F0 m (pc + 3) ls (.long r :: rest))) : W p l e R s m args below meth c H locs cells slots Q (F0 m pc ls st0) := by
  intro T hT X
  rcases hr T hT X with ⟨v, st₀, t, T', L, h0, X', hL, e1, e2, ⟨⟨r, u, hv, hp, hb⟩, hF⟩, st⟩ | ⟨q, st₀, t, T', L, E, ce, h0, X', hL, e1, e2, ⟨u, hp, hb, hF⟩, hce, hcv, hcl, st⟩
  · cases hv
    obtain ⟨k1, k2, k3⟩ := vx_keep h0 e1 hS hA hf hL hF
    obtain ⟨t2, a1, b1⟩ := kk r u t T'.heap (locs ++ L) e1.symm (by rw [← e2]; exact X'.warmed.alike) hp hb k1 k2 k3 T' rfl X'
    exact ⟨t2, st t2 a1, b1⟩
  · obtain ⟨k1, k2, k3⟩ := vx_keep h0 e1 hS hAX hf hL hF
    obtain ⟨t2, a1, b1⟩ := kx E ce q u t T'.heap (locs ++ L) e1.symm (by rw [← e2]; exact X'.warmed.alike) hp hb k1 k2 k3 (by rw [e1]; exact hce) hcv hcl T' rfl X'
    exact ⟨t2, st.trans a1, b1⟩
theorem vx_callf {S SX : Type} {post : UInt32 → S → Prop} {px : SX → Prop} {B : S → State → Prop} {BX : String → SX → State → Prop} {AX : Nat → Prop} (hr : vx_Run p l e R s m args below meth c H locs cells slots mc ms (F0 m pc ls st0) rest (va_Qf post B A1 a) (vx_X px BX AX) free) (hS : va_S A0 H0 H locs) (hA : ∀ q, q < H.size → A1 q → A0 q) (hf : ∀ q, free q → A0 q) (hAX : ∀ q, q < H.size → AX q → A0 q)
    (kx : ∀ (E : String) (ce : Cell) (q9 : Addr) (u : SX) (t : State) (H1 : Heap) (locs1 : List Loc), t.heap = H1 → s.vm.Alike t.vm → px u → BX E u t → H.size ≤ H1.size → (∀ q : Nat, q < H.size → ¬ AX q → H1[q]? = H[q]?) → va_S A0 H0 H1 locs1 → H1[q9]? = some ce → ce.vm = .none → s.vm.findClass E = some ce.cls → vx_W p l e R s m args below meth c H1 locs1 (cells + mc) (slots + ms) Q (F0 m pc ls rest) q9)
    (kk : ∀ (r : UInt32) (u : S) (t : State) (H1 : Heap) (locs1 : List Loc), t.heap = H1 → s.vm.Alike t.vm → post r u → B u t → H.size ≤ H1.size → (∀ q : Nat, q < H.size → ¬ A1 q → H1[q]? = H[q]?) → va_S A0 H0 H1 locs1 → W p l e R s m args below meth c H1 locs1 (cells + mc) (slots + ms) Q (F0 m (pc + 3) ls (.float r :: rest))) : W p l e R s m args below meth c H locs cells slots Q (F0 m pc ls st0) := by
  intro T hT X
  rcases hr T hT X with ⟨v, st₀, t, T', L, h0, X', hL, e1, e2, ⟨⟨r, u, hv, hp, hb⟩, hF⟩, st⟩ | ⟨q, st₀, t, T', L, E, ce, h0, X', hL, e1, e2, ⟨u, hp, hb, hF⟩, hce, hcv, hcl, st⟩
  · cases hv
    obtain ⟨k1, k2, k3⟩ := vx_keep h0 e1 hS hA hf hL hF
    obtain ⟨t2, a1, b1⟩ := kk r u t T'.heap (locs ++ L) e1.symm (by rw [← e2]; exact X'.warmed.alike) hp hb k1 k2 k3 T' rfl X'
    exact ⟨t2, st t2 a1, b1⟩
  · obtain ⟨k1, k2, k3⟩ := vx_keep h0 e1 hS hAX hf hL hF
    obtain ⟨t2, a1, b1⟩ := kx E ce q u t T'.heap (locs ++ L) e1.symm (by rw [← e2]; exact X'.warmed.alike) hp hb k1 k2 k3 (by rw [e1]; exact hce) hcv hcl T' rfl X'
    exact ⟨t2, st.trans a1, b1⟩
theorem vx_calld {S SX : Type} {post : UInt64 → S → Prop} {px : SX → Prop} {B : S → State → Prop} {BX : String → SX → State → Prop} {AX : Nat → Prop} (hr : vx_Run p l e R s m args below meth c H locs cells slots mc ms (F0 m pc ls st0) rest (va_Qd post B A1 a) (vx_X px BX AX) free) (hS : va_S A0 H0 H locs) (hA : ∀ q, q < H.size → A1 q → A0 q) (hf : ∀ q, free q → A0 q) (hAX : ∀ q, q < H.size → AX q → A0 q)
    (kx : ∀ (E : String) (ce : Cell) (q9 : Addr) (u : SX) (t : State) (H1 : Heap) (locs1 : List Loc), t.heap = H1 → s.vm.Alike t.vm → px u → BX E u t → H.size ≤ H1.size → (∀ q : Nat, q < H.size → ¬ AX q → H1[q]? = H[q]?) → va_S A0 H0 H1 locs1 → H1[q9]? = some ce → ce.vm = .none → s.vm.findClass E = some ce.cls → vx_W p l e R s m args below meth c H1 locs1 (cells + mc) (slots + ms) Q (F0 m pc ls rest) q9)
    (kk : ∀ (r : UInt64) (u : S) (t : State) (H1 : Heap) (locs1 : List Loc), t.heap = H1 → s.vm.Alike t.vm → post r u → B u t → H.size ≤ H1.size → (∀ q : Nat, q < H.size → ¬ A1 q → H1[q]? = H[q]?) → va_S A0 H0 H1 locs1 → W p l e R s m args below meth c H1 locs1 (cells + mc) (slots + ms) Q (F0 m (pc + 3) ls (.double r :: rest))) : W p l e R s m args below meth c H locs cells slots Q (F0 m pc ls st0) := by
  intro T hT X
  rcases hr T hT X with ⟨v, st₀, t, T', L, h0, X', hL, e1, e2, ⟨⟨r, u, hv, hp, hb⟩, hF⟩, st⟩ | ⟨q, st₀, t, T', L, E, ce, h0, X', hL, e1, e2, ⟨u, hp, hb, hF⟩, hce, hcv, hcl, st⟩
  · cases hv
    obtain ⟨k1, k2, k3⟩ := vx_keep h0 e1 hS hA hf hL hF
    obtain ⟨t2, a1, b1⟩ := kk r u t T'.heap (locs ++ L) e1.symm (by rw [← e2]; exact X'.warmed.alike) hp hb k1 k2 k3 T' rfl X'
    exact ⟨t2, st t2 a1, b1⟩
  · obtain ⟨k1, k2, k3⟩ := vx_keep h0 e1 hS hAX hf hL hF
    obtain ⟨t2, a1, b1⟩ := kx E ce q u t T'.heap (locs ++ L) e1.symm (by rw [← e2]; exact X'.warmed.alike) hp hb k1 k2 k3 (by rw [e1]; exact hce) hcv hcl T' rfl X'
    exact ⟨t2, st.trans a1, b1⟩
theorem vx_callv {S SX : Type} {post : S → Prop} {px : SX → Prop} {B : S → State → Prop} {BX : String → SX → State → Prop} {AX : Nat → Prop} (hr : vx_Run p l e R s m args below meth c H locs cells slots mc ms (F0 m pc ls st0) rest (va_Qv post B A1 a) (vx_X px BX AX) free) (hS : va_S A0 H0 H locs) (hA : ∀ q, q < H.size → A1 q → A0 q) (hf : ∀ q, free q → A0 q) (hAX : ∀ q, q < H.size → AX q → A0 q)
    (kx : ∀ (E : String) (ce : Cell) (q9 : Addr) (u : SX) (t : State) (H1 : Heap) (locs1 : List Loc), t.heap = H1 → s.vm.Alike t.vm → px u → BX E u t → H.size ≤ H1.size → (∀ q : Nat, q < H.size → ¬ AX q → H1[q]? = H[q]?) → va_S A0 H0 H1 locs1 → H1[q9]? = some ce → ce.vm = .none → s.vm.findClass E = some ce.cls → vx_W p l e R s m args below meth c H1 locs1 (cells + mc) (slots + ms) Q (F0 m pc ls rest) q9)
    (kk : ∀ (u : S) (t : State) (H1 : Heap) (locs1 : List Loc), t.heap = H1 → s.vm.Alike t.vm → post u → B u t → H.size ≤ H1.size → (∀ q : Nat, q < H.size → ¬ A1 q → H1[q]? = H[q]?) → va_S A0 H0 H1 locs1 → W p l e R s m args below meth c H1 locs1 (cells + mc) (slots + ms) Q (F0 m (pc + 3) ls (rest))) : W p l e R s m args below meth c H locs cells slots Q (F0 m pc ls st0) := by
  intro T hT X
  rcases hr T hT X with ⟨v, st₀, t, T', L, h0, X', hL, e1, e2, ⟨⟨u, hv, hp, hb⟩, hF⟩, st⟩ | ⟨q, st₀, t, T', L, E, ce, h0, X', hL, e1, e2, ⟨u, hp, hb, hF⟩, hce, hcv, hcl, st⟩
  · cases hv
    obtain ⟨k1, k2, k3⟩ := vx_keep h0 e1 hS hA hf hL hF
    obtain ⟨t2, a1, b1⟩ := kk u t T'.heap (locs ++ L) e1.symm (by rw [← e2]; exact X'.warmed.alike) hp hb k1 k2 k3 T' rfl X'
    exact ⟨t2, st t2 a1, b1⟩
  · obtain ⟨k1, k2, k3⟩ := vx_keep h0 e1 hS hAX hf hL hF
    obtain ⟨t2, a1, b1⟩ := kx E ce q u t T'.heap (locs ++ L) e1.symm (by rw [← e2]; exact X'.warmed.alike) hp hb k1 k2 k3 (by rw [e1]; exact hce) hcv hcl T' rfl X'
    exact ⟨t2, st.trans a1, b1⟩
/-- caught by the row x of this method's table; the rows ahead don't take it -/
theorem vx_catch {own name : String} {E : String} {ce : Cell} {q : Addr} (hown : s.vm.findClass own = some m.cls) (pre : List ExceptionTableEntry) (x : ExceptionTableEntry) (suf : List ExceptionTableEntry) (hsplit : c.exceptionTable.toList = pre ++ x :: suf)
    (hpass : ∀ z ∈ pre, covers z pc = false ∨ (z.catchType ≠ 0 ∧ ∃ nm : String, (Cond.classLink own z.catchType nm).before args s = true ∧ va_Nc E nm s)) (hx : covers x pc = true) (h0 : x.catchType ≠ 0)
    (hlink : (Cond.classLink own x.catchType name).before args s = true) (hcast : (Cond.castable E name).before args s = true) (hcell : H[q]? = some ce) (hv : ce.vm = .none) (hcl : s.vm.findClass E = some ce.cls)
    (kk : W p l e R s m args below meth c H locs cells slots Q (F0 m x.handlerPc ls [.ref q])) : vx_W p l e R s m args below meth c H locs cells slots Q (F0 m pc ls rest) q := by
  intro T hT X
  have hpl : e.platform.magicAccessors = ({} : Platform).magicAccessors := by rw [X.admits.platform]
  obtain ⟨c3, c4, hc3, hc4, hasg⟩ := Cond.castable_spec hcast
  cases Option.some.inj (hc3.symm.trans hcl)
  obtain ⟨c5, hc5, hcl5⟩ := Cond.classLink_spec hown hlink e.platform hpl
  cases Option.some.inj (hc4.symm.trans hc5)
  obtain ⟨vm', X', st⟩ := X.thenCaughtThrough q (g := F0 m pc ls rest) rfl (Steps.refl _) (by rw [hT]; exact hcell) (by rw [hv]; rfl) (by obtain ⟨k9, h9, -⟩ := Vm.findClass_spec hcl; exact ⟨k9, h9⟩) pre x suf hsplit
    (fun z hz => by
      rcases hpass z hz with h | ⟨hz0, nm, hl1, hn1⟩
      · exact Or.inl h
      · obtain ⟨c6, hc6, hcl6⟩ := Cond.classLink_spec hown hl1 e.platform hpl
        obtain ⟨a8, b8, h1, h2, h3⟩ := hn1
        cases Option.some.inj (h1.symm.trans hcl)
        cases Option.some.inj (h2.symm.trans hc6)
        exact Or.inr ⟨hz0, _, hcl6, h3⟩) hx (Or.inr ⟨h0, c4, hcl5, hasg⟩)
  obtain ⟨t, a1, b1⟩ := kk (T.setVm vm') hT X'
  exact ⟨t, st.trans a1, b1⟩
end Rows
section Ends
variable {p : Program} {l : Launch} {e : Env} {R : Room} {s : State} {m : MethodId} {args : Array Value} {below : List Frame} {meth : Method} {c : Code} {H : Heap} {locs : List Loc} {cells slots : Nat} {Q : State → Prop}
variable {mc ms : Nat} {free : Addr → Prop} {A0 A1 : Nat → Prop} {H0 : Heap} {a : Array Value} {ls : Array Slot} {st0 rest : List Value}
variable {Qc : Array Value → State → Outcome → State → Prop} {XC : String → State → State → Prop}
/-- what a body that may throw owes at its end -/
def vx_MQ (below : List Frame) (Qc : Array Value → State → Outcome → State → Prop) (XC : String → State → State → Prop) (a : Array Value) (s : State) (mc ms : Nat) (free : Addr → Prop) : State → Prop := fun t =>
  ∃ o, t.status = .running ∧ Ended t below o ∧ vx_Q Qc XC mc ms free a s o t
theorem vx_ret {g : JFrame} {mc ms : Nat} (k : W p l e R s m args below meth c H locs cells slots (MQ below Qc args s mc ms free) g) : W p l e R s m args below meth c H locs cells slots (vx_MQ below Qc XC args s mc ms free) g := by
  intro T hT X
  obtain ⟨t, a1, o, b1, b2, b3, b4⟩ := k T hT X
  exact ⟨t, a1, o, b1, b2, Or.inl ⟨b3, b4⟩⟩
/-- not caught here: it goes on to the caller -/
theorem vx_widen {g : JFrame} {q : Addr} {k n : Nat} (h1 : cells ≤ k) (h2 : slots ≤ n) (kk : vx_W p l e R s m args below meth c H locs k n Q g q) : vx_W p l e R s m args below meth c H locs cells slots Q g q := fun T hT X => kk T hT (stand_widen X h1 h2)
theorem vx_out {pc : Nat} {E : String} {ce : Cell} {q : Addr} {mc ms : Nat} (hout : ∀ x ∈ c.exceptionTable.toList, covers x pc = false) (hlocks : meth.locks = false) (hcell : H[q]? = some ce) (hv : ce.vm = .none) (hcl : s.vm.findClass E = some ce.cls)
    (hx : ∀ t : State, t.heap = H → s.vm.Alike t.vm → XC E s t) (hf : ∀ z ∈ locs, free z.base) (hc : cells ≤ mc) (hs : slots ≤ ms) :
    vx_W p l e R s m args below meth c H locs cells slots (vx_MQ below Qc XC args s mc ms free) (F0 m pc ls rest) q := by
  intro T hT X
  obtain ⟨st1, hrun, hend, hW, hsm⟩ := X.leaveThrown q (g := F0 m pc ls rest) rfl rfl rfl hout hlocks
  have hcell9 : (T.setFrames (.throwing q :: below)).heap[q]? = some ce := by
    show T.heap[q]? = some ce
    rw [hT]; exact hcell
  exact ⟨_, st1, .threw q, hrun, hend, Or.inr ⟨q, rfl, E, ce, locs, hx _ hT hW.alike, hcell9, hv, hcl, hW, hsm.mono hc hs, hf⟩⟩
theorem vx_frame {U : State} {k n : Nat} (h : s.sameButNew ({ U with vm := s.vm } : State) locs k n) : s.heap.size ≤ U.heap.size ∧ ∀ q : Nat, q < s.heap.size → (∀ z ∈ locs, z.base ≠ q) → U.heap[q]? = s.heap[q]? := by
  obtain ⟨-, h2, -, -, -, h6⟩ := h
  refine ⟨h2, fun q hq hz => ?_⟩
  obtain ⟨c9, e1, e2, e3, e4⟩ := h6 q _ (Array.getElem?_eq_getElem hq)
  have hs : c9.slots = (s.heap[q]).slots := Array.ext_getElem? fun i => e4 i fun hm => hz _ hm rfl
  have h9 : c9 = s.heap[q] := by
    rw [hs] at e2
    exact e2
  have e5 : U.heap[q]? = some c9 := e1
  rw [e5, h9, Array.getElem?_eq_getElem hq]
/-- the words of a throw but the four that speak of the heap -/
def vx_no (w : Cond) : Bool := decide (w ≠ .isRef (.static Bundle.tN "UNASSIGNED_STACK" Bundle.steD)) && decide (w ≠ .isRef (.static Bundle.tN "SUPPRESSED_SENTINEL" Bundle.listD)) && decide (w ≠ .laysStatic Bundle.tN "UNASSIGNED_STACK" Bundle.steD) && decide (w ≠ .laysStatic Bundle.tN "SUPPRESSED_SENTINEL" Bundle.listD)
def vx_at0 (own : String) (ic : Nat) (X : String) (names : List String) : List Cond := (Bundle.ownAtoms0 own ic X names).filter vx_no
def vx_atS (own : String) (ic : Nat) (X : String) (names : List String) : List Cond := (Bundle.ownAtoms own ic X names).filter vx_no
/-- a word that the tables alone decide, or a good one -/
def vx_ot (w : Cond) : Bool := w.onTables || goodWord w
theorem vx_ot_at {args a' : Array Value} {s U : State} {w : Cond} (hW : s.WarmedH U.vm) (hvm : s.vm = U.vm) (hg : vx_ot w = true) (h : w.before args s = true) : w.before a' U = true := by
  simp only [vx_ot, Bool.or_eq_true] at hg
  rcases hg with hg | hg
  · exact va_tabs hg hvm h
  · exact word_at hW (good_of_word hg) h
/-- a list's words: the good ones out of the method's own list, the others by premises of their own -/
theorem vx_hat {args : Array Value} {s : State} {L B : List Cond} (h1 : ∀ w ∈ L.filter goodWord, w.before args s = true) (h2 : ∀ w ∈ L.filter (fun w => !goodWord w), w ∈ B) (h3 : ∀ w ∈ B, w.before args s = true) : ∀ w ∈ L, w.before args s = true := by
  intro w hw
  by_cases g : goodWord w = true
  · exact h1 w (List.mem_filter.mpr ⟨hw, g⟩)
  · refine h3 w (h2 w (List.mem_filter.mpr ⟨hw, ?_⟩))
    show (!goodWord w) = true
    cases hgw : goodWord w
    · rfl
    · exact absurd hgw g
theorem vx_c {args : Array Value} {s : State} {w : Cond} {B : List Cond} (h : w.before args s = true) (t : ∀ w ∈ B, w.before args s = true) : ∀ w' ∈ w :: B, w'.before args s = true := fun w' h' => (List.mem_cons.mp h').elim (fun e => by rw [e]; exact h) (t w')
theorem vx_n {args : Array Value} {s : State} : ∀ w ∈ ([] : List Cond), w.before args s = true := fun _ h => nomatch h
theorem vx_own {args : Array Value} {s : State} {L : List Cond} (h1 : ∀ w ∈ L.filter vx_no, w.before args s = true)
    (hU : (Cond.isRef (.static Bundle.tN "UNASSIGNED_STACK" Bundle.steD)).before args s = true) (hN : (Cond.isRef (.static Bundle.tN "SUPPRESSED_SENTINEL" Bundle.listD)).before args s = true)
    (lU : (Cond.laysStatic Bundle.tN "UNASSIGNED_STACK" Bundle.steD).before args s = true) (lN : (Cond.laysStatic Bundle.tN "SUPPRESSED_SENTINEL" Bundle.listD).before args s = true) : ∀ w ∈ L, w.before args s = true := by
  intro w hw
  by_cases e1 : w = .isRef (.static Bundle.tN "UNASSIGNED_STACK" Bundle.steD)
  · rw [e1]; exact hU
  · by_cases e2 : w = .isRef (.static Bundle.tN "SUPPRESSED_SENTINEL" Bundle.listD)
    · rw [e2]; exact hN
    · by_cases e3 : w = .laysStatic Bundle.tN "UNASSIGNED_STACK" Bundle.steD
      · rw [e3]; exact lU
      · by_cases e4 : w = .laysStatic Bundle.tN "SUPPRESSED_SENTINEL" Bundle.listD
        · rw [e4]; exact lN
        · exact h1 w (List.mem_filter.mpr ⟨hw, by unfold vx_no; rw [decide_eq_true e1, decide_eq_true e2, decide_eq_true e3, decide_eq_true e4]; rfl⟩)
/-- where a static field lies, its class's statics cell in H -/
def vx_L (C n d : String) (A : Nat → Prop) (U : State) (H : Heap) : Prop := ∃ (c : ClassId) (k : Class) (i : Nat) (f : Field) (a : Nat) (cell : Cell), U.vm.findClass C = some c ∧ U.fieldFound? C n d = some (c, k, i, f) ∧ f.isStatic = true ∧ k.statics = some a ∧ H[a]? = some cell ∧ cell.vm.isStatics = true ∧ cell.cls = c ∧ f.slot < cell.slots.size ∧ k.staticTypes[f.slot]? = some f.type ∧ ¬ A a
theorem vx_L.moved {C n d : String} {A : Nat → Prop} {u U : State} {H : Heap} (hvm : u.vm.Alike U.vm) (h : vx_L C n d A u H) : vx_L C n d A U H := by
  obtain ⟨c, k, i, f, a, cell, h1, h2, h3, h4, h5, h6, h7, h8, h9, h10⟩ := h
  obtain ⟨k', hi', he⟩ := State.fieldFound?_setVm hvm h2
  exact ⟨c, k', i, f, a, cell, by rw [hvm.findClass]; exact h1, hi', h3, by rw [he]; exact h4, h5, h6, h7, h8, by rw [he]; exact h9, h10⟩
theorem vx_L.kept {C n d : String} {A : Nat → Prop} {U : State} {H H1 : Heap} (h : vx_L C n d A U H) (hq : ∀ a : Nat, a < H.size → ¬ A a → H1[a]? = H[a]?) : vx_L C n d A U H1 := by
  obtain ⟨c, k, i, f, a, cell, h1, h2, h3, h4, h5, h6, h7, h8, h9, h10⟩ := h
  exact ⟨c, k, i, f, a, cell, h1, h2, h3, h4, by rw [hq a (Array.getElem?_eq_some_iff.mp h5).1 h10]; exact h5, h6, h7, h8, h9, h10⟩
theorem vx_L.narrow {C n d : String} {A B : Nat → Prop} {U : State} {H : Heap} (h : vx_L C n d A U H) (hAB : ∀ q, B q → A q) : vx_L C n d B U H := by
  obtain ⟨c, k, i, f, a, cell, h1, h2, h3, h4, h5, h6, h7, h8, h9, h10⟩ := h
  exact ⟨c, k, i, f, a, cell, h1, h2, h3, h4, h5, h6, h7, h8, h9, fun z => h10 (hAB _ z)⟩
theorem vx_L.word {C n d : String} {A : Nat → Prop} {s : State} {args : Array Value} (h : vx_L C n d A s s.heap) : (Cond.laysStatic C n d).before args s = true := by
  obtain ⟨c, k, i, f, a, cell, h1, h2, h3, h4, h5, h6, h7, h8, h9, -⟩ := h
  show (Cond.laysStatic C n d).holds args s none s [] = true
  exact Cond.laysStatic_of h1 h2 h3 h4 h5 h6 h7 h8 h9
/-- .. and what it holds: null or some reference -/
def vx_Zq (C n d : String) (A : Nat → Prop) (U : State) (H : Heap) : Prop := va_Zq C n d A U H ∧ vx_L C n d A U H
theorem vx_Zq.moved {C n d : String} {A : Nat → Prop} {u U : State} {H : Heap} (hvm : u.vm.Alike U.vm) (h : vx_Zq C n d A u H) : vx_Zq C n d A U H := ⟨va_Zq.moved hvm h.1, vx_L.moved hvm h.2⟩
theorem vx_Zq.kept {C n d : String} {A : Nat → Prop} {U : State} {H H1 : Heap} (h : vx_Zq C n d A U H) (hq : ∀ a : Nat, a < H.size → ¬ A a → H1[a]? = H[a]?) : vx_Zq C n d A U H1 := ⟨va_Zq.kept h.1 hq, vx_L.kept h.2 hq⟩
theorem vx_Zq.narrow {C n d : String} {A B : Nat → Prop} {U : State} {H : Heap} (h : vx_Zq C n d A U H) (hAB : ∀ q, B q → A q) : vx_Zq C n d B U H := ⟨va_Zq.narrow h.1 hAB, vx_L.narrow h.2 hAB⟩
theorem vx_Zqof {args : Array Value} {s : State} {C n d : String} {A : Nat → Prop} (hl : (Cond.laysStatic C n d).before args s = true) (hini : (Cond.initialized C).before args s = true) (h : (Cond.isRef (.static C n d)).before args s = true) (hA : ∀ a : Nat, a < s.heap.size → ¬ A a) : vx_Zq C n d A s s.heap := by
  refine ⟨va_Zqof hl hini h hA, ?_⟩
  obtain ⟨c, k, i, f, a, cell, h1, h2, h3, h4, h5, h6, h7, h8, h9⟩ := Cond.laysStatic_spec hl
  exact ⟨c, k, i, f, a, cell, h1, h2, h3, h4, h5, h6, h7, h8, h9, hA a (Array.getElem?_eq_some_iff.mp h5).1⟩
theorem vx_isRef {C n d : String} {v : Value} {A : Nat → Prop} {s : State} {args : Array Value} (h : va_Z C n d v A s s.heap) (hv : v.isRef = true) : (Cond.isRef (.static C n d)).before args s = true := by
  obtain ⟨cf, kf, fi, f, a, cell, h1, h2, h3, h4, h5, h6, h7, -⟩ := h
  have he : (Term.static C n d).eval args s none [] s = some v := by
    simp [Term.eval, State.fieldNamed?, h1, h2, h4, h5, h6, h7]
  simp only [Cond.before, Cond.holds, Cond.value, he]
  cases v <;> simp_all [Value.isRef]
theorem vx_isRefq {C n d : String} {A : Nat → Prop} {s : State} {args : Array Value} (h : va_Zq C n d A s s.heap) : (Cond.isRef (.static C n d)).before args s = true := by
  rcases h with h | ⟨t, h⟩
  · exact vx_isRef h rfl
  · exact vx_isRef h rfl
/-- the same frame, seen from here: as if the method were called anew in this heap -/
theorem vx_rebase {T : State} (X : Stand p l e R s m args below meth c T locs cells slots) {R' : Room} (hf : R'.frames ≤ R.frames) (hl : R'.locals ≤ R.locals) (hc : cells + R'.cells ≤ R.cells) (hs : slots + R'.slots ≤ R.slots) :
    Stand p l e R' ((T.setVm s.vm).setFrames (.invoking m args :: below)) m args below meth c T [] 0 0 := by
  have htop : (T.setVm s.vm).topJava?.isSome := X.here.top
  have hF : ((T.setVm s.vm).setFrames (.invoking m args :: below)).frames = .invoking m args :: below := State.frames_setFrames _ (State.cur_lt_of_top htop)
  obtain ⟨g₀, hg0⟩ := Option.isSome_iff_exists.mp htop
  obtain ⟨r, hr⟩ := State.topJava?_eq_some.mp hg0
  have hl9 : e.platform.stackLimits (T.setVm s.vm).me = e.platform.stackLimits s.me := X.limits
  have hb9 : (T.setVm s.vm).me.stackBytes = s.me.stackBytes := X.bytes
  refine ⟨X.admits, X.cas, X.clock, hF, ?_, X.hears, X.method, X.code, X.here, X.tail, X.warmed, ?_, ?_, ?_⟩
  · have h := X.room
    have hU : ((T.setVm s.vm).setFrames (.invoking m args :: below)).localsInUse = s.localsInUse := by
      rw [State.localsInUse_invoking hF (meth := meth) (c := c) X.method X.code, State.localsInUse_invoking X.frames X.method X.code]
    simp only [State.hasRoom, Bool.and_eq_true, decide_eq_true_eq] at h ⊢
    obtain ⟨⟨⟨⟨h1, h2, h3, h4, h5, h6⟩, h7⟩, h8⟩, h9⟩ := h
    rw [X.frames, List.length_cons] at h2 h3
    have q1 := X.heapSize
    have q2 := X.used
    simp only [hF, hU, List.length_cons, State.stackLimits_setFrames, State.stackBytes_setFrames, hl9, hb9]
    refine ⟨⟨⟨⟨by omega, by omega, by omega, by omega, by omega, h6⟩, ?_⟩, ?_⟩, X.book⟩
    · show T.heap.size + R'.cells ≤ e.platform.maxCells
      omega
    · show T.slotsUsed + R'.slots ≤ e.platform.maxSlots
      omega
  · rw [State.stackLimits_setFrames]; rfl
  · rw [State.stackBytes_setFrames]; rfl
  · refine ⟨?_, Nat.le_refl _, Nat.le_refl _, ?_, ?_, fun a c9 h9 => ⟨c9, h9, rfl, rfl, fun _ _ => rfl⟩⟩
    · obtain ⟨t, ht, -⟩ := State.frames_cons hr
      show T.setVm s.vm = { ((T.setVm s.vm).setFrames (.invoking m args :: below)).setFrames (T.setVm s.vm).frames with heap := T.heap, slotsUsed := T.slotsUsed }
      rw [State.setFrames_setFrames, State.setFrames_self ht]
      rfl
    · show T.slotsUsed = T.slotsUsed + ((T.heap.toList.drop T.heap.size).map (·.slots.size)).sum
      rw [List.drop_eq_nil_of_le (Nat.le_of_eq Array.length_toList)]
      rfl
    · show ((T.heap.toList.drop T.heap.size).map (·.slots.size)).sum ≤ 0
      rw [List.drop_eq_nil_of_le (Nat.le_of_eq Array.length_toList)]
      exact Nat.le_refl _
/-- 'throw new E()': new; dup; invokespecial; athrow -/
theorem vx_throw0 {cc : ByteArray} {pc : Nat} (hexec : p.tables.exec = Jvm.exec) (hb : c.code = cc) (hl : l.stackTraces = false) {own cls : String} {names : List String} {ik ic mc ms : Nat} {A : Nat → Prop}
    (hown : s.vm.findClass own = some m.cls) (hcls : Bundle.fit cls = true) (hnames : ∀ n ∈ names, Bundle.fit n = true)
    (hk : (Cond.classLink own ik cls).before args s = true) (hini : (Cond.initialized cls).before args s = true) (hat : ∀ w ∈ vx_at0 own ic cls names, w.before args s = true)
    (hgood : ∀ w ∈ Cond.classLink own ik cls :: Cond.initialized cls :: vx_at0 own ic cls names, vx_ot w = true)
    (hU : vx_Zq Bundle.tN "UNASSIGNED_STACK" Bundle.steD A s s.heap) (hN : vx_Zq Bundle.tN "SUPPRESSED_SENTINEL" Bundle.listD A s s.heap) (hS : va_S A s.heap H locs) (hsize : ls.size = c.maxLocals)
    (d0 : decode cc pc = .ok (.new ik, 3)) (d3 : decode cc (pc + 3) = .ok (.dup, 1)) (d4 : decode cc (pc + 4) = .ok (.invokespecial ic, 3)) (d7 : decode cc (pc + 7) = .ok (.athrow, 1))
    (hout : ∀ x ∈ c.exceptionTable.toList, covers x (pc + 7) = false)
    (hRframes : names.length + 3 < R.frames) (hRlocals : (rest.map fun v => v.category).sum + (13 * (names.length + 1) + 42) ≤ R.locals) (hRcells : cells + 1 ≤ R.cells) (hRslots : slots + 6 ≤ R.slots) (hlocks : meth.locks = false)
    (hx : ∀ t : State, s.vm.Alike t.vm → H.size ≤ t.heap.size → (∀ q : Nat, q < H.size → t.heap[q]? = H[q]?) → XC cls s t)
    (hf : ∀ z ∈ locs, free z.base) (hc : cells + 1 ≤ mc) (hs : slots + 6 ≤ ms) :
    W p l e R s m args below meth c H locs cells slots (vx_MQ below Qc XC args s mc ms free) (F0 m pc ls rest) := by
  intro T hT X
  have htr : e.platform.stackTraces = false := (show e.platform.stackTraces = l.stackTraces by rw [X.admits.platform]).trans hl
  have Y := vx_rebase X (R' := { frames := R.frames, locals := R.locals, cells := 1, slots := 6 }) (Nat.le_refl _) (Nat.le_refl _) hRcells hRslots
  obtain ⟨s', hA⟩ : ∃ z, z = (T.setVm s.vm).setFrames (.invoking m args :: below) := ⟨_, rfl⟩
  rw [← hA] at Y
  have hvm : s'.vm = s.vm := by rw [hA]; rfl
  have hhp : s'.heap = H := by rw [hA]; exact hT
  have hW0 : s.WarmedH s'.vm := by rw [hvm]; exact State.WarmedH.refl s
  have hat' : ∀ w ∈ vx_at0 own ic cls names, w.before args s' = true := fun w hw => vx_ot_at hW0 hvm.symm (hgood w (List.mem_cons_of_mem _ (List.mem_cons_of_mem _ hw))) (hat w hw)
  have hk' : (Cond.classLink own ik cls).before args s' = true := vx_ot_at hW0 hvm.symm (hgood _ List.mem_cons_self) hk
  have hini' : (Cond.initialized cls).before args s' = true := vx_ot_at hW0 hvm.symm (hgood _ (List.mem_cons_of_mem _ List.mem_cons_self)) hini
  have hU' : vx_Zq Bundle.tN "UNASSIGNED_STACK" Bundle.steD A s' s'.heap := by rw [hhp]; exact vx_Zq.moved hW0.alike (hU.kept hS.2.1)
  have hN' : vx_Zq Bundle.tN "SUPPRESSED_SENTINEL" Bundle.listD A s' s'.heap := by rw [hhp]; exact vx_Zq.moved hW0.alike (hN.kept hS.2.1)
  have h : ∀ w ∈ Bundle.ownAtoms0 own ic cls names, w.before args s' = true := vx_own hat' (vx_isRefq hU'.1) (vx_isRefq hN'.1) hU'.2.word hN'.2.word
  have hown' : s'.vm.findClass own = some m.cls := by rw [hvm]; exact hown
  have hins : (Cond.instantiable cls 6).before args s' = true := h _ (by simp [Bundle.ownAtoms0])
  obtain ⟨vm₁, cX, kX, hfX, hkX, -, -, X₁, st1⟩ := Y.newCold hexec (own := own) (C := cls) (index := ik) (n := 6) hown' hk' hins hini'
    (g := F0 m pc ls rest) rfl (by rw [hb]; exact d0) (Nat.le_refl _) (Nat.le_refl _)
  generalize hT1 : (T.setVm vm₁).pushCell { cls := cX, slots := kX.instanceTypes.map defaultValue, vm := .none } = T1 at X₁ st1
  have hcat : (Value.ref T.heap.size).category = 1 := rfl
  have hcellA : T1.heap[T.heap.size]? = some (freshCell cX kX) := by rw [← hT1]; exact State.heap_pushCell_size _ _
  have d3' : decode c.code (pc + 3) = .ok (.dup, 1) := by rw [hb]; exact d3
  obtain ⟨U, hsteps, hrun, hend, hW, hsame, ce, hce, hO⟩ := X₁.ctorThrow0 hexec htr (own := own) (cls := cls) (names := names) (ic := ic) hown' hcls hnames h (fun x hx => nomatch hx) hfX hkX hcellA (by rw [hhp, hT]; exact Nat.le_refl _)
    (g := { method := m, pc := pc + 4, locals := ls, stack := .ref T.heap.size :: .ref T.heap.size :: rest, locked := none }) rfl hsize rfl rfl (rest := rest) rfl
    (by rw [hb]; exact d4) (by rw [hb]; exact d7) hout hRframes (by simp only [List.map_cons, List.sum_cons, hcat]; omega) hlocks
  obtain ⟨f1, f2⟩ := vx_frame hsame
  rw [hhp] at f1 f2
  have hWs : s.WarmedH U.vm := State.WarmedH.trans hW0 hW
  have hcl : s.vm.findClass cls = some ce.cls := by
    have h9 := hO.cls
    rw [hvm] at h9
    exact h9
  have hall : s.sameButNew ({ U with vm := s.vm } : State) locs mc ms := by
    subst hA
    obtain ⟨e1, e2⟩ := hsame
    rw [State.setFrames_setFrames] at e1
    have h2 : (T.setVm s.vm).sameButNew ({ U with vm := s.vm } : State) [] (0 + 1) (0 + 6) := ⟨e1, e2⟩
    have h3 := X.same.trans h2
    rw [List.append_nil] at h3
    exact h3.mono hc hs
  refine ⟨U, ?_, .threw T.heap.size, hrun, hend, Or.inr ⟨T.heap.size, rfl, cls, ce, locs, hx U hWs.alike f1 (fun q hq => f2 q hq (fun z hz => nomatch hz)), hce, hO.vm, hcl, hWs, hall, hf⟩⟩
  refine st1 _ ?_
  show Steps p.tables e below (T1.setTop { method := m, pc := pc + 3, locals := ls, stack := .ref T.heap.size :: rest, locked := none }) _
  jvm_step X₁.here [X₁.here.top, hexec, d3', Value.category]
  exact hsteps
/-- 'throw new E("text")': new; dup; ldc; invokespecial; athrow -/
theorem vx_throwS {cc : ByteArray} {pc : Nat} (hexec : p.tables.exec = Jvm.exec) (hb : c.code = cc) (hl : l.stackTraces = false) {own cls text : String} {names : List String} {ik is ic mc ms sa : Nat} {A : Nat → Prop}
    (hown : s.vm.findClass own = some m.cls) (hcls : Bundle.fit cls = true) (hnames : ∀ n ∈ names, Bundle.fit n = true)
    (hk : (Cond.classLink own ik cls).before args s = true) (hini : (Cond.initialized cls).before args s = true) (hstr : vk_R own is text sa s) (hat : ∀ w ∈ vx_atS own ic cls names, w.before args s = true)
    (hgood : ∀ w ∈ Cond.classLink own ik cls :: Cond.initialized cls :: vx_atS own ic cls names, vx_ot w = true)
    (hU : vx_Zq Bundle.tN "UNASSIGNED_STACK" Bundle.steD A s s.heap) (hN : vx_Zq Bundle.tN "SUPPRESSED_SENTINEL" Bundle.listD A s s.heap) (hS : va_S A s.heap H locs) (hsize : ls.size = c.maxLocals)
    (d0 : decode cc pc = .ok (.new ik, 3)) (d3 : decode cc (pc + 3) = .ok (.dup, 1)) (d4 : decode cc (pc + 4) = .ok (.ldc is, 2)) (d6 : decode cc (pc + 6) = .ok (.invokespecial ic, 3)) (d9 : decode cc (pc + 9) = .ok (.athrow, 1))
    (hout : ∀ x ∈ c.exceptionTable.toList, covers x (pc + 9) = false)
    (hRframes : names.length + 3 < R.frames) (hRlocals : (rest.map fun v => v.category).sum + (13 * (names.length + 1) + 43) ≤ R.locals) (hRcells : cells + 1 ≤ R.cells) (hRslots : slots + 6 ≤ R.slots) (hlocks : meth.locks = false)
    (hx : ∀ t : State, s.vm.Alike t.vm → H.size ≤ t.heap.size → (∀ q : Nat, q < H.size → t.heap[q]? = H[q]?) → XC cls s t)
    (hf : ∀ z ∈ locs, free z.base) (hc : cells + 1 ≤ mc) (hs : slots + 6 ≤ ms) :
    W p l e R s m args below meth c H locs cells slots (vx_MQ below Qc XC args s mc ms free) (F0 m pc ls rest) := by
  intro T hT X
  have htr : e.platform.stackTraces = false := (show e.platform.stackTraces = l.stackTraces by rw [X.admits.platform]).trans hl
  have Y := vx_rebase X (R' := { frames := R.frames, locals := R.locals, cells := 1, slots := 6 }) (Nat.le_refl _) (Nat.le_refl _) hRcells hRslots
  obtain ⟨s', hA⟩ : ∃ z, z = (T.setVm s.vm).setFrames (.invoking m args :: below) := ⟨_, rfl⟩
  rw [← hA] at Y
  have hvm : s'.vm = s.vm := by rw [hA]; rfl
  have hhp : s'.heap = H := by rw [hA]; exact hT
  have hW0 : s.WarmedH s'.vm := by rw [hvm]; exact State.WarmedH.refl s
  have hat' : ∀ w ∈ vx_atS own ic cls names, w.before args s' = true := fun w hw => vx_ot_at hW0 hvm.symm (hgood w (List.mem_cons_of_mem _ (List.mem_cons_of_mem _ hw))) (hat w hw)
  have hk' : (Cond.classLink own ik cls).before args s' = true := vx_ot_at hW0 hvm.symm (hgood _ List.mem_cons_self) hk
  have hini' : (Cond.initialized cls).before args s' = true := vx_ot_at hW0 hvm.symm (hgood _ (List.mem_cons_of_mem _ List.mem_cons_self)) hini
  have hU' : vx_Zq Bundle.tN "UNASSIGNED_STACK" Bundle.steD A s' s'.heap := by rw [hhp]; exact vx_Zq.moved hW0.alike (hU.kept hS.2.1)
  have hN' : vx_Zq Bundle.tN "SUPPRESSED_SENTINEL" Bundle.listD A s' s'.heap := by rw [hhp]; exact vx_Zq.moved hW0.alike (hN.kept hS.2.1)
  have h : ∀ w ∈ Bundle.ownAtoms own ic cls names, w.before args s' = true := vx_own hat' (vx_isRefq hU'.1) (vx_isRefq hN'.1) hU'.2.word hN'.2.word
  have hown' : s'.vm.findClass own = some m.cls := by rw [hvm]; exact hown
  have hins : (Cond.instantiable cls 6).before args s' = true := h _ (by simp [Bundle.ownAtoms])
  obtain ⟨vm₁, cX, kX, hfX, hkX, -, -, X₁, st1⟩ := Y.newCold hexec (own := own) (C := cls) (index := ik) (n := 6) hown' hk' hins hini'
    (g := F0 m pc ls rest) rfl (by rw [hb]; exact d0) (Nat.le_refl _) (Nat.le_refl _)
  generalize hT1 : (T.setVm vm₁).pushCell { cls := cX, slots := kX.instanceTypes.map defaultValue, vm := .none } = T1 at X₁ st1
  have hcat : (Value.ref T.heap.size).category = 1 := rfl
  have hcellA : T1.heap[T.heap.size]? = some (freshCell cX kX) := by rw [← hT1]; exact State.heap_pushCell_size _ _
  have d3' : decode c.code (pc + 3) = .ok (.dup, 1) := by rw [hb]; exact d3
  have d4' : decode c.code (pc + 4) = .ok (.ldc is, 2) := by rw [hb]; exact d4
  have hstr' : vk_R own is text sa s' := vk_R.warm hW0 hstr
  obtain ⟨U, hsteps, hrun, hend, hW, hsame, ce, hce, hO⟩ := X₁.ctorThrowS hexec htr (own := own) (cls := cls) (names := names) (ic := ic) hown' hcls hnames h (fun x hx => nomatch hx) hfX hkX hcellA (by rw [hhp, hT]; exact Nat.le_refl _) (msg := .ref sa) rfl
    (g := { method := m, pc := pc + 6, locals := ls, stack := .ref sa :: .ref T.heap.size :: .ref T.heap.size :: rest, locked := none }) rfl hsize rfl rfl (rest := rest) rfl
    (by rw [hb]; exact d6) (by rw [hb]; exact d9) hout hRframes (by simp only [List.map_cons, List.sum_cons, hcat]; omega) hlocks
  obtain ⟨f1, f2⟩ := vx_frame hsame
  rw [hhp] at f1 f2
  have hWs : s.WarmedH U.vm := State.WarmedH.trans hW0 hW
  have hcl : s.vm.findClass cls = some ce.cls := by
    have h9 := hO.cls
    rw [hvm] at h9
    exact h9
  have hall : s.sameButNew ({ U with vm := s.vm } : State) locs mc ms := by
    subst hA
    obtain ⟨e1, e2⟩ := hsame
    rw [State.setFrames_setFrames] at e1
    have h2 : (T.setVm s.vm).sameButNew ({ U with vm := s.vm } : State) [] (0 + 1) (0 + 6) := ⟨e1, e2⟩
    have h3 := X.same.trans h2
    rw [List.append_nil] at h3
    exact h3.mono hc hs
  refine ⟨U, ?_, .threw T.heap.size, hrun, hend, Or.inr ⟨T.heap.size, rfl, cls, ce, locs, hx U hWs.alike f1 (fun q hq => f2 q hq (fun z hz => nomatch hz)), hce, hO.vm, hcl, hWs, hall, hf⟩⟩
  refine st1 _ ?_
  show Steps p.tables e below (T1.setTop { method := m, pc := pc + 3, locals := ls, stack := .ref T.heap.size :: rest, locked := none }) _
  jvm_step X₁.here [X₁.here.top, hexec, d3', Value.category]
  exact X₁.ldcString hexec (own := own) (text := text) (index := is) (a := sa) hown' hstr'.1 hstr'.2
    (g := { method := m, pc := pc + 4, locals := ls, stack := .ref T.heap.size :: .ref T.heap.size :: rest, locked := none }) rfl d4' _ hsteps
/-- 'throw new E("text")', the text by a wide index -/
theorem vx_throwSW {cc : ByteArray} {pc : Nat} (hexec : p.tables.exec = Jvm.exec) (hb : c.code = cc) (hl : l.stackTraces = false) {own cls text : String} {names : List String} {ik is ic mc ms sa : Nat} {A : Nat → Prop}
    (hown : s.vm.findClass own = some m.cls) (hcls : Bundle.fit cls = true) (hnames : ∀ n ∈ names, Bundle.fit n = true)
    (hk : (Cond.classLink own ik cls).before args s = true) (hini : (Cond.initialized cls).before args s = true) (hstr : vk_R own is text sa s) (hat : ∀ w ∈ vx_atS own ic cls names, w.before args s = true)
    (hgood : ∀ w ∈ Cond.classLink own ik cls :: Cond.initialized cls :: vx_atS own ic cls names, vx_ot w = true)
    (hU : vx_Zq Bundle.tN "UNASSIGNED_STACK" Bundle.steD A s s.heap) (hN : vx_Zq Bundle.tN "SUPPRESSED_SENTINEL" Bundle.listD A s s.heap) (hS : va_S A s.heap H locs) (hsize : ls.size = c.maxLocals)
    (d0 : decode cc pc = .ok (.new ik, 3)) (d3 : decode cc (pc + 3) = .ok (.dup, 1)) (d4 : decode cc (pc + 4) = .ok (.ldc_w is, 3)) (d7 : decode cc (pc + 7) = .ok (.invokespecial ic, 3)) (d10 : decode cc (pc + 10) = .ok (.athrow, 1))
    (hout : ∀ x ∈ c.exceptionTable.toList, covers x (pc + 10) = false)
    (hRframes : names.length + 3 < R.frames) (hRlocals : (rest.map fun v => v.category).sum + (13 * (names.length + 1) + 43) ≤ R.locals) (hRcells : cells + 1 ≤ R.cells) (hRslots : slots + 6 ≤ R.slots) (hlocks : meth.locks = false)
    (hx : ∀ t : State, s.vm.Alike t.vm → H.size ≤ t.heap.size → (∀ q : Nat, q < H.size → t.heap[q]? = H[q]?) → XC cls s t)
    (hf : ∀ z ∈ locs, free z.base) (hc : cells + 1 ≤ mc) (hs : slots + 6 ≤ ms) :
    W p l e R s m args below meth c H locs cells slots (vx_MQ below Qc XC args s mc ms free) (F0 m pc ls rest) := by
  intro T hT X
  have htr : e.platform.stackTraces = false := (show e.platform.stackTraces = l.stackTraces by rw [X.admits.platform]).trans hl
  have Y := vx_rebase X (R' := { frames := R.frames, locals := R.locals, cells := 1, slots := 6 }) (Nat.le_refl _) (Nat.le_refl _) hRcells hRslots
  obtain ⟨s', hA⟩ : ∃ z, z = (T.setVm s.vm).setFrames (.invoking m args :: below) := ⟨_, rfl⟩
  rw [← hA] at Y
  have hvm : s'.vm = s.vm := by rw [hA]; rfl
  have hhp : s'.heap = H := by rw [hA]; exact hT
  have hW0 : s.WarmedH s'.vm := by rw [hvm]; exact State.WarmedH.refl s
  have hat' : ∀ w ∈ vx_atS own ic cls names, w.before args s' = true := fun w hw => vx_ot_at hW0 hvm.symm (hgood w (List.mem_cons_of_mem _ (List.mem_cons_of_mem _ hw))) (hat w hw)
  have hk' : (Cond.classLink own ik cls).before args s' = true := vx_ot_at hW0 hvm.symm (hgood _ List.mem_cons_self) hk
  have hini' : (Cond.initialized cls).before args s' = true := vx_ot_at hW0 hvm.symm (hgood _ (List.mem_cons_of_mem _ List.mem_cons_self)) hini
  have hU' : vx_Zq Bundle.tN "UNASSIGNED_STACK" Bundle.steD A s' s'.heap := by rw [hhp]; exact vx_Zq.moved hW0.alike (hU.kept hS.2.1)
  have hN' : vx_Zq Bundle.tN "SUPPRESSED_SENTINEL" Bundle.listD A s' s'.heap := by rw [hhp]; exact vx_Zq.moved hW0.alike (hN.kept hS.2.1)
  have h : ∀ w ∈ Bundle.ownAtoms own ic cls names, w.before args s' = true := vx_own hat' (vx_isRefq hU'.1) (vx_isRefq hN'.1) hU'.2.word hN'.2.word
  have hown' : s'.vm.findClass own = some m.cls := by rw [hvm]; exact hown
  have hins : (Cond.instantiable cls 6).before args s' = true := h _ (by simp [Bundle.ownAtoms])
  obtain ⟨vm₁, cX, kX, hfX, hkX, -, -, X₁, st1⟩ := Y.newCold hexec (own := own) (C := cls) (index := ik) (n := 6) hown' hk' hins hini'
    (g := F0 m pc ls rest) rfl (by rw [hb]; exact d0) (Nat.le_refl _) (Nat.le_refl _)
  generalize hT1 : (T.setVm vm₁).pushCell { cls := cX, slots := kX.instanceTypes.map defaultValue, vm := .none } = T1 at X₁ st1
  have hcat : (Value.ref T.heap.size).category = 1 := rfl
  have hcellA : T1.heap[T.heap.size]? = some (freshCell cX kX) := by rw [← hT1]; exact State.heap_pushCell_size _ _
  have d3' : decode c.code (pc + 3) = .ok (.dup, 1) := by rw [hb]; exact d3
  have d4' : decode c.code (pc + 4) = .ok (.ldc_w is, 3) := by rw [hb]; exact d4
  have hstr' : vk_R own is text sa s' := vk_R.warm hW0 hstr
  obtain ⟨U, hsteps, hrun, hend, hW, hsame, ce, hce, hO⟩ := X₁.ctorThrowS hexec htr (own := own) (cls := cls) (names := names) (ic := ic) hown' hcls hnames h (fun x hx => nomatch hx) hfX hkX hcellA (by rw [hhp, hT]; exact Nat.le_refl _) (msg := .ref sa) rfl
    (g := { method := m, pc := pc + 7, locals := ls, stack := .ref sa :: .ref T.heap.size :: .ref T.heap.size :: rest, locked := none }) rfl hsize rfl rfl (rest := rest) rfl
    (by rw [hb]; exact d7) (by rw [hb]; exact d10) hout hRframes (by simp only [List.map_cons, List.sum_cons, hcat]; omega) hlocks
  obtain ⟨f1, f2⟩ := vx_frame hsame
  rw [hhp] at f1 f2
  have hWs : s.WarmedH U.vm := State.WarmedH.trans hW0 hW
  have hcl : s.vm.findClass cls = some ce.cls := by
    have h9 := hO.cls
    rw [hvm] at h9
    exact h9
  have hall : s.sameButNew ({ U with vm := s.vm } : State) locs mc ms := by
    subst hA
    obtain ⟨e1, e2⟩ := hsame
    rw [State.setFrames_setFrames] at e1
    have h2 : (T.setVm s.vm).sameButNew ({ U with vm := s.vm } : State) [] (0 + 1) (0 + 6) := ⟨e1, e2⟩
    have h3 := X.same.trans h2
    rw [List.append_nil] at h3
    exact h3.mono hc hs
  refine ⟨U, ?_, .threw T.heap.size, hrun, hend, Or.inr ⟨T.heap.size, rfl, cls, ce, locs, hx U hWs.alike f1 (fun q hq => f2 q hq (fun z hz => nomatch hz)), hce, hO.vm, hcl, hWs, hall, hf⟩⟩
  refine st1 _ ?_
  show Steps p.tables e below (T1.setTop { method := m, pc := pc + 3, locals := ls, stack := .ref T.heap.size :: rest, locked := none }) _
  jvm_step X₁.here [X₁.here.top, hexec, d3', Value.category]
  exact X₁.ldcStringW hexec (own := own) (text := text) (index := is) (a := sa) hown' hstr'.1 hstr'.2
    (g := { method := m, pc := pc + 4, locals := ls, stack := .ref T.heap.size :: .ref T.heap.size :: rest, locked := none }) rfl d4' _ hsteps
end Ends
section Bodies
variable {l : Launch}
theorem vx_ofW {y : MethodName} {ws ws' : List Cond} {rm : Room} {Pc : Array Value → State → Prop} {Qc : Array Value → State → Outcome → State → Prop} {XC : String → State → State → Prop} {mc ms : Nat} {free : Addr → Prop} {cc : ByteArray} {maxL : Nat} {ret : Option FieldType}
    (hy : plainName y.cls = true) (hw : ws = Cond.code y cc maxL ret :: ws')
    (body : ∀ p e s m args below meth c s₁, BodyLoose p l y (headSpec ws rm) cc maxL ret e s m args below meth c s₁ → c.maxLocals = maxL → (∀ x ∈ c.exceptionTable.toList, False) → Pc args s →
      W p l e (headSpec ws rm).room s m args below meth c s.heap [] 0 0 (vx_MQ below Qc XC args s mc ms free) (entryFrame m args maxL)) : vx_Met l y ws rm Pc Qc XC mc ms free := by
  refine MetFree.of_bodyS (code := cc) (maxLocals := maxL) (ret := ret) hy ?_ ?_
  · intro args s m h hn
    obtain ⟨meth, c, h1, h2, h3, h4, h5, h6, -, -⟩ := Cond.code_spec hn (atoms_spec (ws := ws) h _ (by rw [hw]; exact List.mem_cons_self))
    exact ⟨meth, c, h1, h2, h3, h4, h5, h6⟩
  · intro p e s m args below meth c s₁ B hml hP _
    have hh0 : s₁.heap = s.heap := by rw [B.state]; rfl
    have ht : ∀ x ∈ c.exceptionTable.toList, False := by
      obtain ⟨meth9, c9, h1, h2, -, -, -, -, h7, -⟩ := Cond.code_spec B.named (atoms_spec (ws := ws) B.pre _ (by rw [hw]; exact List.mem_cons_self))
      cases Option.some.inj (h1.symm.trans B.method)
      cases Option.some.inj (h2.symm.trans (Stand.of_body B).code)
      intro x hx
      rw [Array.isEmpty_iff.mp h7] at hx
      cases hx
    obtain ⟨t, a1, o, b1, b2, b3⟩ := body p e s m args below meth c s₁ B hml ht hP s₁ hh0 (Stand.of_body B)
    exact ⟨t, o, a1, b1, b2, b3⟩
/-- the table of a body with handlers -/
theorem vx_table {p : Program} {x y : MethodName} {S : Spec} {cc bytes : ByteArray} {maxL maxL' : Nat} {ret ret' : Option FieldType} {e : Env} {s s₁ : State} {m : MethodId} {args : Array Value} {below : List Frame} {meth : Method} {c : Code} {hh : List (Nat × Nat × Nat × Nat)}
    (B : BodyLoose p l y S cc maxL ret e s m args below meth c s₁) (h : (Cond.codeWith y bytes maxL' ret' hh).before args s = true) : c.exceptionTable.toList = tableOf hh := by
  obtain ⟨m9, meth9, c9, hn9, h1, h2, -, -, h6, -⟩ := Cond.codeWith_spec h
  cases Option.some.inj (hn9.symm.trans B.named)
  cases Option.some.inj (h1.symm.trans B.method)
  cases Option.some.inj (h2.symm.trans (Stand.of_body B).code)
  rw [← h6, table_eq]
end Bodies
end VXA
/-! ===== END ===== -/
/-! ===== BEGIN a static call of a method with an exception table ===== -/
section VXS
variable {p : Program} {l : Launch} {e : Env} {R : Room} {s : State} {m : MethodId} {args : Array Value} {below : List Frame} {meth : Method} {c : Code} {T : State} {H : Heap} {locs : List Loc} {cells slots : Nat}
abbrev vx_CSW (R : Room) (s : State) (args : Array Value) (own : String) (index : Nat) (y : MethodName) (bytes : ByteArray) (maxL : Nat) (ret : Option FieldType) (hh : List (Nat × Nat × Nat × Nat)) (ws : List Cond) (rm : Room) (mc ms n : Nat) : Prop :=
  (rm.cells = mc ∧ rm.slots = ms ∧ rm.frames + 1 ≤ R.frames ∧ 8 + (maxL + 11) + rm.locals ≤ R.locals ∧ (∀ w ∈ ws, ∀ (a' : Array Value) (U : State), s.WarmedH U.vm → w.before a' U = true) ∧ Cond.codeWith y bytes maxL ret hh ∈ ws) ∧
  (Cond.codeWith y bytes maxL ret hh).before args s = true ∧ (Cond.initialized y.cls).before args s = true ∧ (y.cls ≠ "java/lang/invoke/MethodHandle" ∧ y.cls ≠ "java/lang/invoke/VarHandle") ∧
  (∀ sig, parseMethodDescriptor y.desc = some sig → n = sig.parameters.length) ∧ (Cond.methodLink own index y).before args s = true ∧ (Cond.static y).before args s = true
theorem vx_cwSW {own : String} {index maxL mc ms : Nat} {y : MethodName} {bytes : ByteArray} {ret : Option FieldType} {hh : List (Nat × Nat × Nat × Nat)} {Ts ws ws' : List Cond} {rm : Room} (n : Nat) (ht : ∀ w ∈ Ts, w.before args s = true) (hT : GoodIn Ts (va_wsS own index y ws)) (hw : ws = Cond.codeWith y bytes maxL ret hh :: ws') (hrc : rm.cells = mc) (hrs : rm.slots = ms)
    (hd : y.cls ≠ "java/lang/invoke/MethodHandle" ∧ y.cls ≠ "java/lang/invoke/VarHandle" ∧ (parseMethodDescriptor y.desc).map (fun d => d.parameters.length) = some n) (hR : rm.frames + 1 ≤ R.frames ∧ 8 + (maxL + 11) + rm.locals ≤ R.locals) :
    vx_CSW R s args own index y bytes maxL ret hh ws rm mc ms n := by
  have ok : ∀ w ∈ va_wsS own index y ws, w.before args s = true := fun w h => ht w (hT w h).1
  have hG : GoodIn Ts ws := fun w h => hT w (by unfold va_wsS; exact List.mem_append_right _ h)
  have hc : Cond.codeWith y bytes maxL ret hh ∈ ws := by rw [hw]; exact List.mem_cons_self
  refine ⟨⟨hrc, hrs, hR.1, hR.2, pay_in ht hG, hc⟩, ht _ (hG _ hc).1, ok _ (by simp [va_wsS]), ⟨hd.1, hd.2.1⟩, fun sig h => ?_, ok _ (by simp [va_wsS]), ok _ (by simp [va_wsS])⟩
  have h2 := hd.2.2
  rw [h] at h2
  exact (Option.some.inj h2).symm
theorem vx_callSW (X : Stand p l e R s m args below meth c T locs cells slots) (hexec : p.tables.exec = Jvm.exec) {own : String} {index : Nat} {y : MethodName} {bytes : ByteArray} {maxL : Nat} {ret : Option FieldType} {hh : List (Nat × Nat × Nat × Nat)}
    (hown : s.vm.findClass own = some m.cls) (hlink : (Cond.methodLink own index y).before args s = true) (hstat : (Cond.static y).before args s = true) (hinit : (Cond.initialized y.cls).before args s = true)
    (hcode : (Cond.codeWith y bytes maxL ret hh).before args s = true) (hy : y.cls ≠ "java/lang/invoke/MethodHandle" ∧ y.cls ≠ "java/lang/invoke/VarHandle")
    {W9 : Nat} {Pre : Pt → Array Value → Prop} {Post : Pt → Array Value → Option Value → Pt → Prop} (hK : Back l R p e below s args y 3 W9 Pre Post)
    {g : JFrame} (hg : g.method = m) (hsize : g.locals.size = c.maxLocals) {argsL rest : List Value} (hlen : ∀ sig, parseMethodDescriptor y.desc = some sig → argsL.length = sig.parameters.length)
    (hstack : g.stack = argsL.reverse ++ rest) (hW : 2 * g.monitorRoom + (rest.map fun v => v.category).sum ≤ W9) (hdg : decode c.code g.pc = .ok (.invokestatic index, 3))
    (hpre : ∀ vm₁, s.WarmedH vm₁ → Pre ⟨T.setVm vm₁, locs, cells, slots⟩ argsL.toArray) :
    ∃ (v : Option Value) (vm₁ : Vm) (B : Pt), s.WarmedH vm₁ ∧ Stand p l e R s m args below meth c B.U B.locs B.cells B.slots ∧ Post ⟨T.setVm vm₁, locs, cells, slots⟩ argsL.toArray v B ∧
      ∀ target, Steps p.tables e below (B.U.setTop { g with pc := g.pc + 3, stack := v.toList ++ rest }) target → Steps p.tables e below (T.setTop g) target := by
  obtain ⟨mk, methM, cM, hnamed, hmethM, -, -, -, -, -, -, hsigM⟩ := Cond.codeWith_spec hcode
  have hstatic : methM.isStatic = true := Cond.static_spec hnamed hmethM hstat
  obtain ⟨kP, hkP, -⟩ := className_of_methodNamed hnamed
  have hinitP : kP.init = .initialized := Cond.initialized_spec (findClass_of_methodNamed hnamed) hkP hinit
  obtain ⟨vm₁, X₁, hstep₁⟩ := X.invokestatic hexec hown hlink hnamed hmethM hstatic hkP hinitP hy (g := g) hg (argsL := argsL) (rest := rest) (hlen _ hsigM) hstack hdg
  obtain ⟨v, B, X', hpost, hsteps⟩ := hK m meth c ⟨T.setVm vm₁, locs, cells, slots⟩ { g with stack := rest } (.invokestatic index) mk argsL.toArray X₁ hg hsize hdg hW (X₁.named hnamed) (hpre vm₁ X₁.warmed)
  exact ⟨v, vm₁, B, X₁.warmed, X', hpost, fun target h => hstep₁ _ fun acts => by rw [doInvoke_state]; exact hsteps.trans h⟩
theorem vx_runSW {y : MethodName} {bytes cc : ByteArray} {maxL nL mc ms n index : Nat} {ret : Option FieldType} {hh : List (Nat × Nat × Nat × Nat)} {ws : List Cond} {rm : Room} {Pc : Array Value → State → Prop} {Qc : Array Value → State → Outcome → State → Prop} {free : Addr → Prop} {Ts : List Cond} {own : String} {As rest : List Value} {g : JFrame}
    (S : CallFix p m c cc nL s args Ts own) (hM : Met l y ws rm Pc Qc mc ms free) (cw : vx_CSW R s args own index y bytes maxL ret hh ws rm mc ms n) (hp : PreS s H Pc As)
    (hg : g.method = m) (hn : As.length = n) (hsize : g.locals.size = nL) (hstack : g.stack = As.reverse ++ rest) (hW : 2 * g.monitorRoom + (rest.map fun v => v.category).sum ≤ 8) (hdg : decode cc g.pc = .ok (.invokestatic index, 3)) (hf : cells + mc ≤ R.cells ∧ slots + ms ≤ R.slots) :
    va_Run p l e R s m args below meth c H locs cells slots mc ms g rest (Qc As.toArray) (free) := by
  obtain ⟨⟨hrc, hrs, hfr, hlo, hws, hcw⟩, hcode, hini, hy, hlen, hl, hstt⟩ := cw
  have hK : Back l R p e below s args y 3 8 (PreOf R mc ms Pc) (PostOf Qc mc ms free) := va_backW (hh := hh) (bytes := bytes) (maxL := maxL) (ret := ret) hM hp.1 hrc hrs hfr hlo hws hcw (fun a' U hW => word_at hW (Or.inl (by first | rfl | simp [Cond.onTables, Cond.keeps, Cond.steady])) hini)
  obtain ⟨hx, hb, hml, ho, -⟩ := S
  intro T hT X
  obtain ⟨v, vm₁, ⟨U', l2, c2, s2⟩, hW₁, X', ⟨g', mk, t, L, e1, e2, hq, h1, hL, h2, h3⟩, st⟩ := vx_callSW X hx (hh := hh) (bytes := bytes) (maxL := maxL) (ret := ret) ho hl hstt hini hcode hy hK hg (hsize.trans hml.symm) (argsL := As) (rest := rest) (fun sig h => hn.trans (hlen sig h)) hstack hW (by rw [hb]; exact hdg)
    (fun vm₁ hW₁ => ⟨hf.1, hf.2, hp.2 (T.setVm vm₁) hT hW₁⟩)
  dsimp only [Pt.U, Pt.locs, Pt.cells, Pt.slots] at X' e1 e2 h1 h2 h3 st
  subst h1; subst h2; subst h3
  exact ⟨v, (T.setVm vm₁).calling g' mk As.toArray, t, U', L, hT, X', hL, e1, e2, hq, st⟩
/-- not caught here, past rows that name other classes: it goes on to the caller -/
theorem vx_outP {p : Program} {l : Launch} {e : Env} {R : Room} {s : State} {m : MethodId} {args : Array Value} {below : List Frame} {meth : Method} {c : Code} {H : Heap} {locs : List Loc} {cells slots : Nat} {free : Addr → Prop} {ls : Array Slot} {rest : List Value} {Qc : Array Value → State → Outcome → State → Prop} {XC : String → State → State → Prop}
    {pc : Nat} {own E : String} {ce : Cell} {q : Addr} {mc ms : Nat} (hown : s.vm.findClass own = some m.cls) (hlocks : meth.locks = false)
    (hpass : ∀ z ∈ c.exceptionTable.toList, covers z pc = false ∨ (z.catchType ≠ 0 ∧ ∃ nm : String, (Cond.classLink own z.catchType nm).before args s = true ∧ va_Nc E nm s)) (hcell : H[q]? = some ce) (hv : ce.vm = .none) (hcl : s.vm.findClass E = some ce.cls)
    (hx : ∀ t : State, t.heap = H → s.vm.Alike t.vm → XC E s t) (hf : ∀ z ∈ locs, free z.base) (hc : cells ≤ mc) (hs : slots ≤ ms) :
    vx_W p l e R s m args below meth c H locs cells slots (vx_MQ below Qc XC args s mc ms free) (F0 m pc ls rest) q := by
  intro T hT X
  have hpl : e.platform.magicAccessors = ({} : Platform).magicAccessors := by rw [X.admits.platform]
  obtain ⟨vm', hW', X', st⟩ := X.outThrough hlocks q (g := F0 m pc ls rest) rfl rfl rfl (cell := ce) (by rw [hT]; exact hcell) (by rw [hv]; rfl)
    (by obtain ⟨k9, h9, -⟩ := Vm.findClass_spec hcl; exact ⟨k9, h9⟩) (fun z hz => by
      rcases hpass z hz with h | ⟨hz0, nm, hl1, hn1⟩
      · exact Or.inl h
      · obtain ⟨c6, hc6, hcl6⟩ := Cond.classLink_spec hown hl1 e.platform hpl
        obtain ⟨a8, b8, h1, h2, h3⟩ := hn1
        cases Option.some.inj (h1.symm.trans hcl)
        cases Option.some.inj (h2.symm.trans hc6)
        exact Or.inr ⟨hz0, _, hcl6, h3⟩)
  obtain ⟨g₀, hfr⟩ := X'.frames_eq
  have hcell9 : ((T.setVm vm').setFrames (.throwing q :: below)).heap[q]? = some ce := by
    show T.heap[q]? = some ce
    rw [hT]; exact hcell
  have hend : Ended ((T.setVm vm').setFrames (.throwing q :: below)) below (.threw q) := State.frames_setFrames _ (State.cur_lt_of_frames hfr)
  refine ⟨(T.setVm vm').setFrames (.throwing q :: below), ?_, .threw q, X'.here.running, hend, Or.inr ⟨q, rfl, E, ce, locs, hx _ hT (X'.ends _).1.alike, hcell9, hv, hcl, (X'.ends _).1, (X'.ends _).2.mono hc hs, hf⟩⟩
  rw [X.pushThrowing_eq]
  exact st
/-- a thing of a world lies in the heap -/
theorem vx_lt {D : va_G} {cl : List vw_C} {ws : va_W} {H1 : Heap} (h : va_P D cl ws H1) {k : Nat} {q : Nat × va_E} (hk : ws[k]? = some q) : q.1 < H1.size := (h k q hk).lt
end VXS
/-! ===== END ===== -/
/-! ===== BEGIN methods with a table of their own: called by a name, returning or throwing ===== -/
section VXH
/-! vx_backW, vx_callVX, vx_callSX, vx_callVW, vx_runVW, vx_runVX, vx_runSX, vx_ofWH follow the same proofs as their sisters above (Free/Laws.lean, Shelf42/LK1.lean); vx_outP calls Shelf42/NT130.lean (outThrough). -/
section
variable {l : Launch} {R : Room} {p : Program} {e : Env} {below : List Frame} {s : State} {sargs : Array Value} {y : MethodName} {len W9 : Nat}
theorem vx_backW {ws : List Cond} {rm : Room} {Pc : Array Value → State → Prop} {Qc : Array Value → State → Outcome → State → Prop} {XC : String → State → State → Prop} {mc ms : Nat} {free : Addr → Prop} {bytes : ByteArray} {maxL : Nat} {ret : Option FieldType} {hh : List (Nat × Nat × Nat × Nat)}
    (hM : vx_Met l y ws rm Pc Qc XC mc ms free) (hblind : FrameBlind Pc) (hrc : rm.cells = mc) (hrs : rm.slots = ms)
    (hframes : rm.frames + 1 ≤ R.frames) (hlocals : W9 + (maxL + 11) + rm.locals ≤ R.locals)
    (hws : ∀ w ∈ ws, ∀ a' U, s.WarmedH U.vm → w.before a' U = true) (hcode : Cond.codeWith y bytes maxL ret hh ∈ ws) (hinit : ∀ a' U, s.WarmedH U.vm → (Cond.initialized y.cls).before a' U = true) :
    vx_Back l R p e below s sargs y len W9 (PreOf R mc ms Pc) (PostOf Qc mc ms free) (vx_Post XC mc ms free) := by
  intro m meth c A g ig mk a X hg hsize hdg hW hn hp
  have h1 : (headSpec ws rm).pre.before a A.U = true := atoms_intro fun w hw => hws w hw _ _ X.warmed
  have h2 : (Cond.codeWith y bytes maxL ret hh).before a A.U = true := hws _ hcode _ _ X.warmed
  have h3 : (Cond.initialized y.cls).before a A.U = true := hinit _ _ X.warmed
  have h4 : A.cells + (headSpec ws rm).room.cells ≤ R.cells := by rw [show (headSpec ws rm).room.cells = mc from hrc]; exact hp.1
  have h5 : A.slots + (headSpec ws rm).room.slots ≤ R.slots := by rw [show (headSpec ws rm).room.slots = ms from hrs]; exact hp.2.1
  have hPc : Pc a (A.U.calling g mk a) := hblind _ _ _ _ hp.2.2
  obtain ⟨U, Ls, c0, s0⟩ := A
  dsimp only [Pt.U, Pt.locs, Pt.cells, Pt.slots] at h1 h2 h3 h4 h5 X hn hPc ⊢
  obtain ⟨m9, methY, cY, hn9, hmY, hcY, -, hlY, -⟩ := Cond.codeWith_spec h2
  cases Option.some.inj (hn9.symm.trans hn)
  obtain ⟨kY, hkY, -⟩ := className_of_methodNamed hn
  have hinitY : kY.init = .initialized := Cond.initialized_spec (findClass_of_methodNamed hn) hkY h3
  have h : At U g.method c below := by rw [hg]; exact X.here
  have hlocals9 : W9 + (maxL + 11) + (headSpec ws rm).room.locals ≤ R.locals := hlocals
  have happ : (headSpec ws rm).appliesLoose y e.platform (U.calling g mk a) = true :=
    Spec.appliesLoose_calling (g := g) h hdg hn hkY hinitY
      (X.room_calling (g := g) (R' := (headSpec ws rm).room) hsize hmY hcY hframes (by rw [hlY]; omega) h4 h5) h1
  obtain ⟨mid, hmid⟩ := h.above
  have hfr : (U.setTop g).frames = (.java g :: mid) ++ below := by rw [State.frames_setTop' g h.top, hmid]; rfl
  obtain ⟨o, s₂, hsteps, -, hend, hq⟩ := Steps.callFree hM p X.admits X.cas X.clock (acts := []) hfr happ hPc trivial
  have hq' : vx_Q Qc XC mc ms free a (U.calling g mk a) o s₂ := hq
  rw [State.frames_setTop' g h.top] at hend
  obtain ⟨g₀, hg0⟩ := Option.isSome_iff_exists.mp h.top
  obtain ⟨r, hr⟩ := State.topJava?_eq_some.mp hg0
  have hr' : (({ U with heap := s₂.heap, slotsUsed := s₂.slotsUsed } : State).setVm s₂.vm).frames = .java g₀ :: r := hr
  rcases hq' with ⟨hqc, L, hfe, hL⟩ | ⟨q, rfl, E, ce, L, hx, hce, hcv, hcl, hW₂, hsm, hL⟩
  · obtain ⟨⟨v, rfl⟩, hW₂, e2, q2, q3, q4, q5, q6⟩ := id hfe
    have e3 : s₂ = ({ (U.calling g mk a).setFrames s₂.frames with heap := s₂.heap, slotsUsed := s₂.slotsUsed } : State).setVm s₂.vm := by
      have : s₂ = ({ s₂ with vm := (U.calling g mk a).vm } : State).setVm s₂.vm := rfl
      rw [e2] at this
      exact this
    obtain ⟨c₂, i₂, len₂, hc₂, hd₂, hf₂⟩ := hend
    have hW' : U.WarmedH s₂.vm := hW₂
    have hcc : c₂ = c := by
      have h1 : s₂.code? g.method = U.code? g.method := by
        rw [State.code?_eq, State.code?_eq, hW'.alike.method?]
      exact Option.some.inj (hc₂.symm.trans (h1.trans h.code))
    subst hcc
    have hlen : len₂ = len := by rw [hdg] at hd₂; cases hd₂; rfl
    subst hlen
    have hs₂ : s₂ = (({ U with heap := s₂.heap, slotsUsed := s₂.slotsUsed } : State).setVm s₂.vm).setTop { g with pc := g.pc + len₂, stack := v.toList ++ g.stack } := by
      refine e3.trans ?_
      rw [hf₂, State.calling_eq h.top, State.setFrames_setFrames, State.setTop_of_frames _ hr', hr]
      rfl
    have hsame : U.sameButNew ({ U with heap := s₂.heap, slotsUsed := s₂.slotsUsed } : State) L mc ms := by
      refine ⟨?_, q2, q3, q4, q5, q6⟩
      obtain ⟨t, ht, -⟩ := State.frames_cons hr
      show ({ U with heap := s₂.heap, slotsUsed := s₂.slotsUsed } : State) = { U.setFrames U.frames with heap := s₂.heap, slotsUsed := s₂.slotsUsed }
      rw [State.setFrames_self ht]
    subst hg
    refine Or.inl ⟨v, ⟨(({ U with heap := s₂.heap, slotsUsed := s₂.slotsUsed } : State).setVm s₂.vm), Ls ++ L, c0 + mc, s0 + ms⟩,
      ⟨X.admits, X.cas, X.clock, X.frames, X.room, X.hears, X.method, X.code, (X.here.setHeapUsed s₂.heap s₂.slotsUsed).setVm hW'.alike, X.tail, State.WarmedH.trans X.warmed hW', X.limits, X.bytes, X.same.trans (hsame.setVm s.vm)⟩,
      ⟨g, mk, s₂, L, rfl, rfl, hqc, rfl, hL, rfl, rfl⟩, ?_⟩
    show Steps p.tables e below _ ((({ U with heap := s₂.heap, slotsUsed := s₂.slotsUsed } : State).setVm s₂.vm).setTop { g with pc := g.pc + len₂, stack := v.toList ++ g.stack })
    rw [← hs₂]
    exact hsteps
  · obtain ⟨e2, q2, q3, q4, q5, q6⟩ := id hsm
    have e3 : s₂ = ({ (U.calling g mk a).setFrames s₂.frames with heap := s₂.heap, slotsUsed := s₂.slotsUsed } : State).setVm s₂.vm := by
      have : s₂ = ({ s₂ with vm := (U.calling g mk a).vm } : State).setVm s₂.vm := rfl
      rw [e2] at this
      exact this
    have hf₂ : s₂.frames = .throwing q :: .java g :: U.frames.tail := hend
    have hW' : U.WarmedH s₂.vm := hW₂
    have hs₂ : s₂ = ((({ U with heap := s₂.heap, slotsUsed := s₂.slotsUsed } : State).setVm s₂.vm).setTop g).pushFrame (.throwing q) := by
      refine e3.trans ?_
      rw [hf₂, State.calling_eq h.top, State.setFrames_setFrames, State.pushFrame, State.frames_setTop _ hr', State.setTop_of_frames _ hr', State.setFrames_setFrames, hr]
      rfl
    have hsame : U.sameButNew ({ U with heap := s₂.heap, slotsUsed := s₂.slotsUsed } : State) L mc ms := by
      refine ⟨?_, q2, q3, q4, q5, q6⟩
      obtain ⟨t, ht, -⟩ := State.frames_cons hr
      show ({ U with heap := s₂.heap, slotsUsed := s₂.slotsUsed } : State) = { U.setFrames U.frames with heap := s₂.heap, slotsUsed := s₂.slotsUsed }
      rw [State.setFrames_self ht]
    subst hg
    refine Or.inr ⟨q, ⟨(({ U with heap := s₂.heap, slotsUsed := s₂.slotsUsed } : State).setVm s₂.vm), Ls ++ L, c0 + mc, s0 + ms⟩,
      ⟨X.admits, X.cas, X.clock, X.frames, X.room, X.hears, X.method, X.code, (X.here.setHeapUsed s₂.heap s₂.slotsUsed).setVm hW'.alike, X.tail, State.WarmedH.trans X.warmed hW', X.limits, X.bytes, X.same.trans (hsame.setVm s.vm)⟩,
      ⟨g, mk, s₂, L, E, ce, rfl, rfl, hx, hce, hcv, hcl, rfl, hL, rfl, rfl⟩, ?_⟩
    show Steps p.tables e below _ (((({ U with heap := s₂.heap, slotsUsed := s₂.slotsUsed } : State).setVm s₂.vm).setTop g).pushFrame (.throwing q))
    rw [← hs₂]
    exact hsteps
end
variable {p : Program} {l : Launch} {e : Env} {R : Room} {s : State} {m : MethodId} {args : Array Value} {below : List Frame} {meth : Method} {c : Code} {T : State} {H : Heap} {locs : List Loc} {cells slots : Nat}
theorem vx_callVX (X : Stand p l e R s m args below meth c T locs cells slots) (hexec : p.tables.exec = Jvm.exec) {own C : String} {index : Nat} {y : MethodName} {bytes : ByteArray} {maxL : Nat} {ret : Option FieldType} {hh : List (Nat × Nat × Nat × Nat)}
    (hown : s.vm.findClass own = some m.cls) (hlink : (Cond.methodLink own index y).before args s = true) (hinst : (Cond.instanceMethod y).before args s = true) (hsel : (Cond.selects C y y).before args s = true)
    (hcode : (Cond.codeWith y bytes maxL ret hh).before args s = true) (hy : y.cls ≠ "java/lang/invoke/MethodHandle" ∧ y.cls ≠ "java/lang/invoke/VarHandle")
    {W9 : Nat} {Pre : Pt → Array Value → Prop} {Post : Pt → Array Value → Option Value → Pt → Prop} {PostX : Pt → Array Value → Addr → Pt → Prop} (hK : vx_Back l R p e below s args y 3 W9 Pre Post PostX)
    {b : Addr} {cellB : Cell} (hcell : T.heap[b]? = some cellB) (hobj : cellB.vm.isStatics = false) (hcls : s.vm.findClass C = some cellB.cls)
    {g : JFrame} (hg : g.method = m) (hsize : g.locals.size = c.maxLocals) {argsL rest : List Value} (hlen : ∀ sig, parseMethodDescriptor y.desc = some sig → argsL.length = sig.parameters.length)
    (hstack : g.stack = argsL.reverse ++ .ref b :: rest) (hW : 2 * g.monitorRoom + (rest.map fun v => v.category).sum ≤ W9) (hdg : decode c.code g.pc = .ok (.invokevirtual index, 3))
    (hpre : ∀ vm₁, s.WarmedH vm₁ → Pre ⟨T.setVm vm₁, locs, cells, slots⟩ (Value.ref b :: argsL).toArray) :
    (∃ (v : Option Value) (vm₁ : Vm) (B : Pt), s.WarmedH vm₁ ∧ Stand p l e R s m args below meth c B.U B.locs B.cells B.slots ∧ Post ⟨T.setVm vm₁, locs, cells, slots⟩ (Value.ref b :: argsL).toArray v B ∧
      ∀ target, Steps p.tables e below (B.U.setTop { g with pc := g.pc + 3, stack := v.toList ++ rest }) target → Steps p.tables e below (T.setTop g) target) ∨
    (∃ (q : Addr) (vm₁ : Vm) (B : Pt), s.WarmedH vm₁ ∧ Stand p l e R s m args below meth c B.U B.locs B.cells B.slots ∧ PostX ⟨T.setVm vm₁, locs, cells, slots⟩ (Value.ref b :: argsL).toArray q B ∧
      Steps p.tables e below (T.setTop g) ((B.U.setTop { g with stack := rest }).pushFrame (.throwing q))) := by
  obtain ⟨mk, methM, hnamed, hmethM, hstM, habM⟩ := Cond.instanceMethod_spec hinst
  obtain ⟨m8, methM', cM, hn8, hmethM', -, -, -, -, -, -, hsigM⟩ := Cond.codeWith_spec hcode
  cases Option.some.inj (hn8.symm.trans hnamed)
  cases hmethM.symm.trans hmethM'
  obtain ⟨c2, r2, m2, q1, q2, q3, q4, kP, hkP, hkPi⟩ := Cond.selects_spec hsel
  cases hcls.symm.trans q1
  cases (State.methodFound?_of_named hnamed hy).symm.trans q2
  cases hnamed.symm.trans q3
  have hselP : selectMethod e.platform s.vm cellB.cls mk = .method mk := by rw [Launch.admits_selectMethod X.admits]; exact q4
  obtain ⟨vm₁, X₁, hstep₁⟩ := X.invokevirtual hexec hown hlink hnamed hmethM hstM hkP hkPi hy (a := b) (cell := cellB) hcell
    (fun z h => by rw [h] at hobj; cases hobj) hselP hmethM habM hkP hkPi (g := g) hg (argsL := argsL) (rest := rest) (hlen _ hsigM) hstack hdg
  rcases hK m meth c ⟨T.setVm vm₁, locs, cells, slots⟩ { g with stack := rest } (.invokevirtual index) mk (Value.ref b :: argsL).toArray X₁ hg hsize hdg hW (X₁.named hnamed) (hpre vm₁ X₁.warmed) with ⟨v, B, X', hpost, hsteps⟩ | ⟨q, B, X', hpost, hsteps⟩
  · exact Or.inl ⟨v, vm₁, B, X₁.warmed, X', hpost, fun target h => hstep₁ _ fun acts => by rw [doInvoke_state]; exact hsteps.trans h⟩
  · exact Or.inr ⟨q, vm₁, B, X₁.warmed, X', hpost, hstep₁ _ fun acts => by rw [doInvoke_state]; exact hsteps⟩
theorem vx_callSX (X : Stand p l e R s m args below meth c T locs cells slots) (hexec : p.tables.exec = Jvm.exec) {own : String} {index : Nat} {y : MethodName} {bytes : ByteArray} {maxL : Nat} {ret : Option FieldType} {hh : List (Nat × Nat × Nat × Nat)}
    (hown : s.vm.findClass own = some m.cls) (hlink : (Cond.methodLink own index y).before args s = true) (hstat : (Cond.static y).before args s = true) (hinit : (Cond.initialized y.cls).before args s = true)
    (hcode : (Cond.codeWith y bytes maxL ret hh).before args s = true) (hy : y.cls ≠ "java/lang/invoke/MethodHandle" ∧ y.cls ≠ "java/lang/invoke/VarHandle")
    {W9 : Nat} {Pre : Pt → Array Value → Prop} {Post : Pt → Array Value → Option Value → Pt → Prop} {PostX : Pt → Array Value → Addr → Pt → Prop} (hK : vx_Back l R p e below s args y 3 W9 Pre Post PostX)
    {g : JFrame} (hg : g.method = m) (hsize : g.locals.size = c.maxLocals) {argsL rest : List Value} (hlen : ∀ sig, parseMethodDescriptor y.desc = some sig → argsL.length = sig.parameters.length)
    (hstack : g.stack = argsL.reverse ++ rest) (hW : 2 * g.monitorRoom + (rest.map fun v => v.category).sum ≤ W9) (hdg : decode c.code g.pc = .ok (.invokestatic index, 3))
    (hpre : ∀ vm₁, s.WarmedH vm₁ → Pre ⟨T.setVm vm₁, locs, cells, slots⟩ argsL.toArray) :
    (∃ (v : Option Value) (vm₁ : Vm) (B : Pt), s.WarmedH vm₁ ∧ Stand p l e R s m args below meth c B.U B.locs B.cells B.slots ∧ Post ⟨T.setVm vm₁, locs, cells, slots⟩ argsL.toArray v B ∧
      ∀ target, Steps p.tables e below (B.U.setTop { g with pc := g.pc + 3, stack := v.toList ++ rest }) target → Steps p.tables e below (T.setTop g) target) ∨
    (∃ (q : Addr) (vm₁ : Vm) (B : Pt), s.WarmedH vm₁ ∧ Stand p l e R s m args below meth c B.U B.locs B.cells B.slots ∧ PostX ⟨T.setVm vm₁, locs, cells, slots⟩ argsL.toArray q B ∧
      Steps p.tables e below (T.setTop g) ((B.U.setTop { g with stack := rest }).pushFrame (.throwing q))) := by
  obtain ⟨mk, methM, cM, hnamed, hmethM, -, -, -, -, -, -, hsigM⟩ := Cond.codeWith_spec hcode
  have hstatic : methM.isStatic = true := Cond.static_spec hnamed hmethM hstat
  obtain ⟨kP, hkP, -⟩ := className_of_methodNamed hnamed
  have hinitP : kP.init = .initialized := Cond.initialized_spec (findClass_of_methodNamed hnamed) hkP hinit
  obtain ⟨vm₁, X₁, hstep₁⟩ := X.invokestatic hexec hown hlink hnamed hmethM hstatic hkP hinitP hy (g := g) hg (argsL := argsL) (rest := rest) (hlen _ hsigM) hstack hdg
  rcases hK m meth c ⟨T.setVm vm₁, locs, cells, slots⟩ { g with stack := rest } (.invokestatic index) mk argsL.toArray X₁ hg hsize hdg hW (X₁.named hnamed) (hpre vm₁ X₁.warmed) with ⟨v, B, X', hpost, hsteps⟩ | ⟨q, B, X', hpost, hsteps⟩
  · exact Or.inl ⟨v, vm₁, B, X₁.warmed, X', hpost, fun target h => hstep₁ _ fun acts => by rw [doInvoke_state]; exact hsteps.trans h⟩
  · exact Or.inr ⟨q, vm₁, B, X₁.warmed, X', hpost, hstep₁ _ fun acts => by rw [doInvoke_state]; exact hsteps⟩
theorem vx_callVW (X : Stand p l e R s m args below meth c T locs cells slots) (hexec : p.tables.exec = Jvm.exec) {own C : String} {index : Nat} {y : MethodName} {bytes : ByteArray} {maxL : Nat} {ret : Option FieldType} {hh : List (Nat × Nat × Nat × Nat)}
    (hown : s.vm.findClass own = some m.cls) (hlink : (Cond.methodLink own index y).before args s = true) (hinst : (Cond.instanceMethod y).before args s = true) (hsel : (Cond.selects C y y).before args s = true)
    (hcode : (Cond.codeWith y bytes maxL ret hh).before args s = true) (hy : y.cls ≠ "java/lang/invoke/MethodHandle" ∧ y.cls ≠ "java/lang/invoke/VarHandle")
    {W9 : Nat} {Pre : Pt → Array Value → Prop} {Post : Pt → Array Value → Option Value → Pt → Prop} (hK : Back l R p e below s args y 3 W9 Pre Post)
    {b : Addr} {cellB : Cell} (hcell : T.heap[b]? = some cellB) (hobj : cellB.vm.isStatics = false) (hcls : s.vm.findClass C = some cellB.cls)
    {g : JFrame} (hg : g.method = m) (hsize : g.locals.size = c.maxLocals) {argsL rest : List Value} (hlen : ∀ sig, parseMethodDescriptor y.desc = some sig → argsL.length = sig.parameters.length)
    (hstack : g.stack = argsL.reverse ++ .ref b :: rest) (hW : 2 * g.monitorRoom + (rest.map fun v => v.category).sum ≤ W9) (hdg : decode c.code g.pc = .ok (.invokevirtual index, 3))
    (hpre : ∀ vm₁, s.WarmedH vm₁ → Pre ⟨T.setVm vm₁, locs, cells, slots⟩ (Value.ref b :: argsL).toArray) :
    ∃ (v : Option Value) (vm₁ : Vm) (B : Pt), s.WarmedH vm₁ ∧ Stand p l e R s m args below meth c B.U B.locs B.cells B.slots ∧ Post ⟨T.setVm vm₁, locs, cells, slots⟩ (Value.ref b :: argsL).toArray v B ∧
      ∀ target, Steps p.tables e below (B.U.setTop { g with pc := g.pc + 3, stack := v.toList ++ rest }) target → Steps p.tables e below (T.setTop g) target := by
  obtain ⟨mk, methM, hnamed, hmethM, hstM, habM⟩ := Cond.instanceMethod_spec hinst
  obtain ⟨m8, methM', cM, hn8, hmethM', -, -, -, -, -, -, hsigM⟩ := Cond.codeWith_spec hcode
  cases Option.some.inj (hn8.symm.trans hnamed)
  cases hmethM.symm.trans hmethM'
  obtain ⟨c2, r2, m2, q1, q2, q3, q4, kP, hkP, hkPi⟩ := Cond.selects_spec hsel
  cases hcls.symm.trans q1
  cases (State.methodFound?_of_named hnamed hy).symm.trans q2
  cases hnamed.symm.trans q3
  have hselP : selectMethod e.platform s.vm cellB.cls mk = .method mk := by rw [Launch.admits_selectMethod X.admits]; exact q4
  obtain ⟨vm₁, X₁, hstep₁⟩ := X.invokevirtual hexec hown hlink hnamed hmethM hstM hkP hkPi hy (a := b) (cell := cellB) hcell
    (fun z h => by rw [h] at hobj; cases hobj) hselP hmethM habM hkP hkPi (g := g) hg (argsL := argsL) (rest := rest) (hlen _ hsigM) hstack hdg
  obtain ⟨v, B, X', hpost, hsteps⟩ := hK m meth c ⟨T.setVm vm₁, locs, cells, slots⟩ { g with stack := rest } (.invokevirtual index) mk (Value.ref b :: argsL).toArray X₁ hg hsize hdg hW (X₁.named hnamed) (hpre vm₁ X₁.warmed)
  exact ⟨v, vm₁, B, X₁.warmed, X', hpost, fun target h => hstep₁ _ fun acts => by rw [doInvoke_state]; exact hsteps.trans h⟩
abbrev vx_CVW (R : Room) (s : State) (args : Array Value) (own C : String) (index : Nat) (y : MethodName) (bytes : ByteArray) (maxL : Nat) (ret : Option FieldType) (hh : List (Nat × Nat × Nat × Nat)) (ws : List Cond) (rm : Room) (mc ms n : Nat) : Prop :=
  (rm.cells = mc ∧ rm.slots = ms ∧ rm.frames + 1 ≤ R.frames ∧ 8 + (maxL + 11) + rm.locals ≤ R.locals ∧ (∀ w ∈ ws, ∀ (a' : Array Value) (U : State), s.WarmedH U.vm → w.before a' U = true) ∧ Cond.codeWith y bytes maxL ret hh ∈ ws) ∧
  (Cond.codeWith y bytes maxL ret hh).before args s = true ∧ (Cond.initialized y.cls).before args s = true ∧ (y.cls ≠ "java/lang/invoke/MethodHandle" ∧ y.cls ≠ "java/lang/invoke/VarHandle") ∧
  (∀ sig, parseMethodDescriptor y.desc = some sig → n = sig.parameters.length) ∧ (Cond.methodLink own index y).before args s = true ∧ (Cond.instanceMethod y).before args s = true ∧ (Cond.selects C y y).before args s = true
theorem vx_cwVW {own C : String} {index maxL mc ms : Nat} {y : MethodName} {bytes : ByteArray} {ret : Option FieldType} {hh : List (Nat × Nat × Nat × Nat)} {Ts ws ws' : List Cond} {rm : Room} (n : Nat) (ht : ∀ w ∈ Ts, w.before args s = true) (hT : GoodIn Ts (wsV own index C y ws)) (hw : ws = Cond.codeWith y bytes maxL ret hh :: ws') (hrc : rm.cells = mc) (hrs : rm.slots = ms)
    (hd : y.cls = C ∧ y.cls ≠ "java/lang/invoke/MethodHandle" ∧ y.cls ≠ "java/lang/invoke/VarHandle" ∧ (parseMethodDescriptor y.desc).map (fun d => d.parameters.length) = some n) (hR : rm.frames + 1 ≤ R.frames ∧ 8 + (maxL + 11) + rm.locals ≤ R.locals) :
    vx_CVW R s args own C index y bytes maxL ret hh ws rm mc ms n := by
  obtain ⟨hC, hd⟩ := hd
  subst hC
  have ok : ∀ w ∈ wsV own index y.cls y ws, w.before args s = true := fun w h => ht w (hT w h).1
  have hG : GoodIn Ts ws := fun w h => hT w (by unfold wsV; exact List.mem_append_right _ h)
  have hc : Cond.codeWith y bytes maxL ret hh ∈ ws := by rw [hw]; exact List.mem_cons_self
  refine ⟨⟨hrc, hrs, hR.1, hR.2, pay_in ht hG, hc⟩, ht _ (hG _ hc).1, ok _ (by simp [wsV]), ⟨hd.1, hd.2.1⟩, fun sig h => ?_, ok _ (by simp [wsV]), ok _ (by simp [wsV]), ok _ (by simp [wsV])⟩
  have h2 := hd.2.2
  rw [h] at h2
  exact (Option.some.inj h2).symm
theorem vx_runVW {y : MethodName} {bytes cc : ByteArray} {maxL nL mc ms n index : Nat} {ret : Option FieldType} {hh : List (Nat × Nat × Nat × Nat)} {ws : List Cond} {rm : Room} {Pc : Array Value → State → Prop} {Qc : Array Value → State → Outcome → State → Prop} {free : Addr → Prop} {Ts : List Cond} {own C : String} {b : Addr} {As rest : List Value} {g : JFrame}
    (S : CallFix p m c cc nL s args Ts own) (hM : Met l y ws rm Pc Qc mc ms free) (cw : vx_CVW R s args own C index y bytes maxL ret hh ws rm mc ms n) (hp : PreV s H C b Pc As)
    (hg : g.method = m) (hn : As.length = n) (hsize : g.locals.size = nL) (hstack : g.stack = As.reverse ++ .ref b :: rest) (hW : 2 * g.monitorRoom + (rest.map fun v => v.category).sum ≤ 8) (hdg : decode cc g.pc = .ok (.invokevirtual index, 3)) (hf : cells + mc ≤ R.cells ∧ slots + ms ≤ R.slots) :
    va_Run p l e R s m args below meth c H locs cells slots mc ms g rest (Qc (Value.ref b :: As).toArray) free := by
  obtain ⟨⟨hrc, hrs, hfr, hlo, hws, hcw⟩, hcode, hini, hy, hlen, hl, hin, hse⟩ := cw
  have hK : Back l R p e below s args y 3 8 (PreOf R mc ms Pc) (PostOf Qc mc ms free) := va_backW (hh := hh) (bytes := bytes) (maxL := maxL) (ret := ret) hM hp.1 hrc hrs hfr hlo hws hcw (fun a' U hW => word_at hW (Or.inl (by first | rfl | simp [Cond.onTables, Cond.keeps, Cond.steady])) hini)
  obtain ⟨hx, hb, hml, ho, -⟩ := S
  obtain ⟨-, ⟨cellB, hcB, hoB, hclB⟩, hPc⟩ := hp
  intro T hT X
  obtain ⟨v, vm₁, ⟨U', l2, c2, s2⟩, hW₁, X', ⟨g', mk, t, L, e1, e2, hq, h1, hL, h2, h3⟩, st⟩ := vx_callVW X hx (C := C) (hh := hh) (bytes := bytes) (maxL := maxL) (ret := ret) ho hl hin hse hcode hy hK (by rw [hT]; exact hcB) hoB hclB hg (hsize.trans hml.symm) (argsL := As) (rest := rest) (fun sig h => hn.trans (hlen sig h)) hstack hW (by rw [hb]; exact hdg)
    (fun vm₁ hW₁ => ⟨hf.1, hf.2, hPc (T.setVm vm₁) hT hW₁⟩)
  dsimp only [Pt.U, Pt.locs, Pt.cells, Pt.slots] at X' e1 e2 h1 h2 h3 st
  subst h1; subst h2; subst h3
  exact ⟨v, (T.setVm vm₁).calling g' mk (Value.ref b :: As).toArray, t, U', L, hT, X', hL, e1, e2, hq, st⟩
section
variable {y : MethodName} {bytes cc : ByteArray} {maxL nL mc ms n index : Nat} {ret : Option FieldType} {ws : List Cond} {rm : Room} {Pc : Array Value → State → Prop} {Qc : Array Value → State → Outcome → State → Prop} {XC : String → State → State → Prop} {free : Addr → Prop} {Ts : List Cond} {own C : String} {b : Addr} {As rest : List Value} {g : JFrame}
theorem vx_runVX {hh : List (Nat × Nat × Nat × Nat)} (S : CallFix p m c cc nL s args Ts own) (hM : vx_Met l y ws rm Pc Qc XC mc ms free) (cw : vx_CVW R s args own C index y bytes maxL ret hh ws rm mc ms n) (hp : PreV s H C b Pc As)
    (hg : g.method = m) (hn : As.length = n) (hsize : g.locals.size = nL) (hstack : g.stack = As.reverse ++ .ref b :: rest) (hW : 2 * g.monitorRoom + (rest.map fun v => v.category).sum ≤ 8) (hdg : decode cc g.pc = .ok (.invokevirtual index, 3)) (hf : cells + mc ≤ R.cells ∧ slots + ms ≤ R.slots) :
    vx_Run p l e R s m args below meth c H locs cells slots mc ms g rest (Qc (Value.ref b :: As).toArray) XC free := by
  obtain ⟨⟨hrc, hrs, hfr, hlo, hws, hcw⟩, hcode, hini, hy, hlen, hl, hin, hse⟩ := cw
  have hK : vx_Back l R p e below s args y 3 8 (PreOf R mc ms Pc) (PostOf Qc mc ms free) (vx_Post XC mc ms free) := vx_backW (hh := hh) (bytes := bytes) (maxL := maxL) (ret := ret) hM hp.1 hrc hrs hfr hlo hws hcw (fun a' U hW => word_at hW (Or.inl (by first | rfl | simp [Cond.onTables, Cond.keeps, Cond.steady])) hini)
  obtain ⟨hx, hb, hml, ho, -⟩ := S
  obtain ⟨-, ⟨cellB, hcB, hoB, hclB⟩, hPc⟩ := hp
  intro T hT X
  rcases vx_callVX X hx (C := C) (hh := hh) (bytes := bytes) (maxL := maxL) (ret := ret) ho hl hin hse hcode hy hK (by rw [hT]; exact hcB) hoB hclB hg (hsize.trans hml.symm) (argsL := As) (rest := rest) (fun sig h => hn.trans (hlen sig h)) hstack hW (by rw [hb]; exact hdg)
    (fun vm₁ hW₁ => ⟨hf.1, hf.2, hPc (T.setVm vm₁) hT hW₁⟩) with ⟨v, vm₁, ⟨U', l2, c2, s2⟩, hW₁, X', ⟨g', mk, t, L, e1, e2, hq, h1, hL, h2, h3⟩, st⟩ | ⟨q, vm₁, ⟨U', l2, c2, s2⟩, hW₁, X', ⟨g', mk, t, L, E, ce, e1, e2, hq, hce, hcv, hcl, h1, hL, h2, h3⟩, st⟩
  · dsimp only [Pt.U, Pt.locs, Pt.cells, Pt.slots] at X' e1 e2 h1 h2 h3 st
    subst h1; subst h2; subst h3
    exact Or.inl ⟨v, (T.setVm vm₁).calling g' mk (Value.ref b :: As).toArray, t, U', L, hT, X', hL, e1, e2, hq, st⟩
  · dsimp only [Pt.U, Pt.locs, Pt.cells, Pt.slots] at X' e1 e2 h1 h2 h3 st hcl
    subst h1; subst h2; subst h3
    exact Or.inr ⟨q, (T.setVm vm₁).calling g' mk (Value.ref b :: As).toArray, t, U', L, E, ce, hT, X', hL, e1, e2, hq, hce, hcv, vx_cls hW₁ hcl, st⟩
theorem vx_runSX {hh : List (Nat × Nat × Nat × Nat)} (S : CallFix p m c cc nL s args Ts own) (hM : vx_Met l y ws rm Pc Qc XC mc ms free) (cw : vx_CSW R s args own index y bytes maxL ret hh ws rm mc ms n) (hp : PreS s H Pc As)
    (hg : g.method = m) (hn : As.length = n) (hsize : g.locals.size = nL) (hstack : g.stack = As.reverse ++ rest) (hW : 2 * g.monitorRoom + (rest.map fun v => v.category).sum ≤ 8) (hdg : decode cc g.pc = .ok (.invokestatic index, 3)) (hf : cells + mc ≤ R.cells ∧ slots + ms ≤ R.slots) :
    vx_Run p l e R s m args below meth c H locs cells slots mc ms g rest (Qc As.toArray) XC free := by
  obtain ⟨⟨hrc, hrs, hfr, hlo, hws, hcw⟩, hcode, hini, hy, hlen, hl, hstt⟩ := cw
  have hK : vx_Back l R p e below s args y 3 8 (PreOf R mc ms Pc) (PostOf Qc mc ms free) (vx_Post XC mc ms free) := vx_backW (hh := hh) (bytes := bytes) (maxL := maxL) (ret := ret) hM hp.1 hrc hrs hfr hlo hws hcw (fun a' U hW => word_at hW (Or.inl (by first | rfl | simp [Cond.onTables, Cond.keeps, Cond.steady])) hini)
  obtain ⟨hx, hb, hml, ho, -⟩ := S
  intro T hT X
  rcases vx_callSX X hx (hh := hh) (bytes := bytes) (maxL := maxL) (ret := ret) ho hl hstt hini hcode hy hK hg (hsize.trans hml.symm) (argsL := As) (rest := rest) (fun sig h => hn.trans (hlen sig h)) hstack hW (by rw [hb]; exact hdg)
    (fun vm₁ hW₁ => ⟨hf.1, hf.2, hp.2 (T.setVm vm₁) hT hW₁⟩) with ⟨v, vm₁, ⟨U', l2, c2, s2⟩, hW₁, X', ⟨g', mk, t, L, e1, e2, hq, h1, hL, h2, h3⟩, st⟩ | ⟨q, vm₁, ⟨U', l2, c2, s2⟩, hW₁, X', ⟨g', mk, t, L, E, ce, e1, e2, hq, hce, hcv, hcl, h1, hL, h2, h3⟩, st⟩
  · dsimp only [Pt.U, Pt.locs, Pt.cells, Pt.slots] at X' e1 e2 h1 h2 h3 st
    subst h1; subst h2; subst h3
    exact Or.inl ⟨v, (T.setVm vm₁).calling g' mk As.toArray, t, U', L, hT, X', hL, e1, e2, hq, st⟩
  · dsimp only [Pt.U, Pt.locs, Pt.cells, Pt.slots] at X' e1 e2 h1 h2 h3 st hcl
    subst h1; subst h2; subst h3
    exact Or.inr ⟨q, (T.setVm vm₁).calling g' mk As.toArray, t, U', L, E, ce, hT, X', hL, e1, e2, hq, hce, hcv, vx_cls hW₁ hcl, st⟩
end
end VXH
theorem vx_ofWH {l : Launch} {y : MethodName} {ws ws' : List Cond} {rm : Room} {Pc : Array Value → State → Prop} {Qc : Array Value → State → Outcome → State → Prop} {XC : String → State → State → Prop} {mc ms : Nat} {free : Addr → Prop} {cc : ByteArray} {maxL : Nat} {ret : Option FieldType} {hh : List (Nat × Nat × Nat × Nat)}
    (hy : plainName y.cls = true) (hw : ws = Cond.codeWith y cc maxL ret hh :: ws')
    (body : ∀ p e s m args below meth c s₁, BodyLoose p l y (headSpec ws rm) cc maxL ret e s m args below meth c s₁ → c.maxLocals = maxL → Pc args s →
      W p l e (headSpec ws rm).room s m args below meth c s.heap [] 0 0 (vx_MQ below Qc XC args s mc ms free) (entryFrame m args maxL)) : vx_Met l y ws rm Pc Qc XC mc ms free := by
  refine MetFree.of_bodyS (code := cc) (maxLocals := maxL) (ret := ret) hy ?_ ?_
  · intro args s m h hn
    obtain ⟨m9, meth, c, hn9, h1, h2, h3, h4, -, h5, h6, -⟩ := Cond.codeWith_spec (atoms_spec (ws := ws) h _ (by rw [hw]; exact List.mem_cons_self))
    cases hn.symm.trans hn9
    exact ⟨meth, c, h1, h2, h3, h4, h5, h6⟩
  · intro p e s m args below meth c s₁ B hml hP _
    have hh0 : s₁.heap = s.heap := by rw [B.state]; rfl
    obtain ⟨t, a1, o, b1, b2, b3⟩ := body p e s m args below meth c s₁ B hml hP s₁ hh0 (Stand.of_body B)
    exact ⟨t, o, a1, b1, b2, b3⟩
/-! ===== END ===== -/
/-! ===== BEGIN a constructor that throws (launches without stack traces) ===== -/
section VXIA
variable {p : Program} {l : Launch} {e : Env} {R : Room} {s : State} {m : MethodId} {args : Array Value} {below : List Frame} {meth : Method} {c : Code} {T : State} {locs : List Loc} {cells slots : Nat}
theorem vx_callI (X : Stand p l e R s m args below meth c T locs cells slots) (hexec : p.tables.exec = Jvm.exec) {own : String} {index : Nat} {y : MethodName} {bytes : ByteArray} {maxL : Nat}
    (hown : s.vm.findClass own = some m.cls) (hy1 : y.name = "<init>") (hlink : (Cond.methodLink own index y).before args s = true) (hinst : (Cond.instanceMethod y).before args s = true)
    (hcode : (Cond.code y bytes maxL none).before args s = true) (hy : y.cls ≠ "java/lang/invoke/MethodHandle" ∧ y.cls ≠ "java/lang/invoke/VarHandle")
    {W9 : Nat} {Pre : Pt → Array Value → Prop} {Post : Pt → Array Value → Option Value → Pt → Prop} {PostX : Pt → Array Value → Addr → Pt → Prop} (hK : vx_Back l R p e below s args y 3 W9 Pre Post PostX)
    {g : JFrame} (hg : g.method = m) (hsize : g.locals.size = c.maxLocals) {a : Addr} {argsL rest : List Value} (hlen : ∀ sig, parseMethodDescriptor y.desc = some sig → argsL.length = sig.parameters.length)
    (hstack : g.stack = argsL.reverse ++ .ref a :: rest) (hW : 2 * g.monitorRoom + (rest.map fun v => v.category).sum ≤ W9) (hdg : decode c.code g.pc = .ok (.invokespecial index, 3))
    (hpre : ∀ vm₁, s.WarmedH vm₁ → Pre ⟨T.setVm vm₁, locs, cells, slots⟩ (Value.ref a :: argsL).toArray) :
    (∃ (v : Option Value) (vm₁ : Vm) (B : Pt), s.WarmedH vm₁ ∧ Stand p l e R s m args below meth c B.U B.locs B.cells B.slots ∧ Post ⟨T.setVm vm₁, locs, cells, slots⟩ (Value.ref a :: argsL).toArray v B ∧
      ∀ target, Steps p.tables e below (B.U.setTop { g with pc := g.pc + 3, stack := v.toList ++ rest }) target → Steps p.tables e below (T.setTop g) target) ∨
    (∃ (q : Addr) (vm₁ : Vm) (B : Pt), s.WarmedH vm₁ ∧ Stand p l e R s m args below meth c B.U B.locs B.cells B.slots ∧ PostX ⟨T.setVm vm₁, locs, cells, slots⟩ (Value.ref a :: argsL).toArray q B ∧
      Steps p.tables e below (T.setTop g) ((B.U.setTop { g with stack := rest }).pushFrame (.throwing q))) := by
  subst hg
  have hpl : e.platform.magicAccessors = ({} : Platform).magicAccessors := by rw [X.admits.platform]
  obtain ⟨mk, methM, cM, kP, vm₁, hnamed, hmethM, hcodeM, -, hlocalsM, -, hkP, -, hW₁, hstep₁⟩ := Steps.initColdArgs (e := e) X.here hexec X.warmed hpl hown hy1 hy hlink hinst hcode (f := g) rfl hlen hstack hdg
  have X₁ := X.noted hW₁
  rcases hK g.method meth c ⟨T.setVm vm₁, locs, cells, slots⟩ { g with stack := rest } (.invokespecial index) mk (Value.ref a :: argsL).toArray X₁ rfl hsize hdg hW (X₁.named hnamed) (hpre vm₁ X₁.warmed) with ⟨v, B, X', hpost, hsteps⟩ | ⟨q, B, X', hpost, hsteps⟩
  · exact Or.inl ⟨v, vm₁, B, X₁.warmed, X', hpost, fun target h => hstep₁ _ fun acts => by rw [doInvoke_state]; exact hsteps.trans h⟩
  · exact Or.inr ⟨q, vm₁, B, X₁.warmed, X', hpost, hstep₁ _ fun acts => by rw [doInvoke_state]; exact hsteps⟩
end VXIA
section VXIB
variable {p : Program} {l : Launch} {e : Env} {R : Room} {s : State} {m : MethodId} {args : Array Value} {below : List Frame} {meth : Method} {c : Code} {H : Heap} {locs : List Loc} {cells slots : Nat}
variable {y : MethodName} {bytes cc : ByteArray} {maxL nL mc ms n index : Nat} {ret : Option FieldType} {ws : List Cond} {rm : Room} {Pc : Array Value → State → Prop} {Qc : Array Value → State → Outcome → State → Prop} {XC : String → State → State → Prop} {free : Addr → Prop} {Ts : List Cond} {own C : String} {b : Addr} {As rest : List Value} {g : JFrame}
theorem vx_runI (S : CallFix p m c cc nL s args Ts own) (hM : vx_Met l y ws rm Pc Qc XC mc ms free) (cw : CallB R s args own index y bytes maxL none ws rm mc ms n ∧ y.name = "<init>" ∧ (Cond.instanceMethod y).before args s = true) (hp : PreS s H Pc (.ref b :: As))
    (hg : g.method = m) (hn : As.length = n) (hsize : g.locals.size = nL) (hstack : g.stack = As.reverse ++ .ref b :: rest) (hW : 2 * g.monitorRoom + (rest.map fun v => v.category).sum ≤ 8) (hdg : decode cc g.pc = .ok (.invokespecial index, 3)) (hf : cells + mc ≤ R.cells ∧ slots + ms ≤ R.slots) :
    vx_Run p l e R s m args below meth c H locs cells slots mc ms g rest (Qc (Value.ref b :: As).toArray) XC free := by
  have hK : vx_Back l R p e below s args y 3 8 (PreOf R mc ms Pc) (PostOf Qc mc ms free) (vx_Post XC mc ms free) := vx_callBack cw.1 hM hp.1
  obtain ⟨⟨-, -, -, -, -, -, hcode, -, hy, hlen, hl⟩, hy1, hin⟩ := cw
  obtain ⟨hx, hb, hml, ho, -⟩ := S
  have hPc := hp.2
  intro T hT X
  rcases vx_callI X hx (bytes := bytes) (maxL := maxL) ho hy1 hl hin hcode hy hK hg (hsize.trans hml.symm) (a := b) (argsL := As) (rest := rest) (fun sig h => hn.trans (hlen sig h)) hstack hW (by rw [hb]; exact hdg)
    (fun vm₁ hW₁ => ⟨hf.1, hf.2, hPc (T.setVm vm₁) hT hW₁⟩) with ⟨v, vm₁, ⟨U', l2, c2, s2⟩, hW₁, X', ⟨g', mk, t, L, e1, e2, hq, h1, hL, h2, h3⟩, st⟩ | ⟨q, vm₁, ⟨U', l2, c2, s2⟩, hW₁, X', ⟨g', mk, t, L, E, ce, e1, e2, hq, hce, hcv, hcl, h1, hL, h2, h3⟩, st⟩
  · dsimp only [Pt.U, Pt.locs, Pt.cells, Pt.slots] at X' e1 e2 h1 h2 h3 st
    subst h1; subst h2; subst h3
    exact Or.inl ⟨v, (T.setVm vm₁).calling g' mk (Value.ref b :: As).toArray, t, U', L, hT, X', hL, e1, e2, hq, st⟩
  · dsimp only [Pt.U, Pt.locs, Pt.cells, Pt.slots] at X' e1 e2 h1 h2 h3 st hcl
    subst h1; subst h2; subst h3
    exact Or.inr ⟨q, (T.setVm vm₁).calling g' mk (Value.ref b :: As).toArray, t, U', L, E, ce, hT, X', hL, e1, e2, hq, hce, hcv, vx_cls hW₁ hcl, st⟩
end VXIB
/-! ===== END ===== -/
/-! ===== BEGIN a private constructor of a nest mate that throws ===== -/
section VXIC
variable {p : Program} {l : Launch} {e : Env} {R : Room} {s : State} {m : MethodId} {args : Array Value} {below : List Frame} {meth : Method} {c : Code} {T : State} {locs : List Loc} {cells slots : Nat}
theorem vx_callIN (X : Stand p l e R s m args below meth c T locs cells slots) (hexec : p.tables.exec = Jvm.exec) {own : String} {index : Nat} {host : String} {y : MethodName} {bytes : ByteArray} {maxL : Nat}
    (hown : s.vm.findClass own = some m.cls) (hy1 : y.name = "<init>") (hlink : (Cond.methodLinkNest own index y host).before args s = true) (hinst : (Cond.instanceMethod y).before args s = true)
    (hcode : (Cond.code y bytes maxL none).before args s = true) (hy : y.cls ≠ "java/lang/invoke/MethodHandle" ∧ y.cls ≠ "java/lang/invoke/VarHandle")
    {W9 : Nat} {Pre : Pt → Array Value → Prop} {Post : Pt → Array Value → Option Value → Pt → Prop} {PostX : Pt → Array Value → Addr → Pt → Prop} (hK : vx_Back l R p e below s args y 3 W9 Pre Post PostX)
    {g : JFrame} (hg : g.method = m) (hsize : g.locals.size = c.maxLocals) {a : Addr} {argsL rest : List Value} (hlen : ∀ sig, parseMethodDescriptor y.desc = some sig → argsL.length = sig.parameters.length)
    (hstack : g.stack = argsL.reverse ++ .ref a :: rest) (hW : 2 * g.monitorRoom + (rest.map fun v => v.category).sum ≤ W9) (hdg : decode c.code g.pc = .ok (.invokespecial index, 3))
    (hpre : ∀ vm₁, s.WarmedH vm₁ → Pre ⟨T.setVm vm₁, locs, cells, slots⟩ (Value.ref a :: argsL).toArray) :
    (∃ (v : Option Value) (vm₁ : Vm) (B : Pt), s.WarmedH vm₁ ∧ Stand p l e R s m args below meth c B.U B.locs B.cells B.slots ∧ Post ⟨T.setVm vm₁, locs, cells, slots⟩ (Value.ref a :: argsL).toArray v B ∧
      ∀ target, Steps p.tables e below (B.U.setTop { g with pc := g.pc + 3, stack := v.toList ++ rest }) target → Steps p.tables e below (T.setTop g) target) ∨
    (∃ (q : Addr) (vm₁ : Vm) (B : Pt), s.WarmedH vm₁ ∧ Stand p l e R s m args below meth c B.U B.locs B.cells B.slots ∧ PostX ⟨T.setVm vm₁, locs, cells, slots⟩ (Value.ref a :: argsL).toArray q B ∧
      Steps p.tables e below (T.setTop g) ((B.U.setTop { g with stack := rest }).pushFrame (.throwing q))) := by
  subst hg
  have hpl : e.platform.magicAccessors = ({} : Platform).magicAccessors := by rw [X.admits.platform]
  obtain ⟨mk, methM, cM, kP, vm₁, hnamed, hmethM, hcodeM, -, hlocalsM, -, hkP, -, hW₁, hstep₁⟩ := Steps.initColdArgsNest (e := e) X.here hexec X.warmed hpl hown hy1 hy hlink hinst hcode (f := g) rfl hlen hstack hdg
  have X₁ := X.noted hW₁
  rcases hK g.method meth c ⟨T.setVm vm₁, locs, cells, slots⟩ { g with stack := rest } (.invokespecial index) mk (Value.ref a :: argsL).toArray X₁ rfl hsize hdg hW (X₁.named hnamed) (hpre vm₁ X₁.warmed) with ⟨v, B, X', hpost, hsteps⟩ | ⟨q, B, X', hpost, hsteps⟩
  · exact Or.inl ⟨v, vm₁, B, X₁.warmed, X', hpost, fun target h => hstep₁ _ fun acts => by rw [doInvoke_state]; exact hsteps.trans h⟩
  · exact Or.inr ⟨q, vm₁, B, X₁.warmed, X', hpost, hstep₁ _ fun acts => by rw [doInvoke_state]; exact hsteps⟩
end VXIC
section VXID
variable {p : Program} {l : Launch} {e : Env} {R : Room} {s : State} {m : MethodId} {args : Array Value} {below : List Frame} {meth : Method} {c : Code} {H : Heap} {locs : List Loc} {cells slots : Nat}
theorem vx_runIN {y : MethodName} {bytes cc : ByteArray} {maxL nL mc ms n index : Nat} {ws : List Cond} {rm : Room} {Pc : Array Value → State → Prop} {Qc : Array Value → State → Outcome → State → Prop} {XC : String → State → State → Prop} {free : Addr → Prop} {Ts : List Cond} {own host : String} {b : Addr} {As rest : List Value} {g : JFrame}
    (S : CallFix p m c cc nL s args Ts own) (hM : vx_Met l y ws rm Pc Qc XC mc ms free) (cw : va_CN R s args own index y host bytes maxL none ws rm mc ms n ∧ y.name = "<init>" ∧ (Cond.instanceMethod y).before args s = true) (hp : PreS s H Pc (.ref b :: As))
    (hg : g.method = m) (hn : As.length = n) (hsize : g.locals.size = nL) (hstack : g.stack = As.reverse ++ .ref b :: rest) (hW : 2 * g.monitorRoom + (rest.map fun v => v.category).sum ≤ 8) (hdg : decode cc g.pc = .ok (.invokespecial index, 3)) (hf : cells + mc ≤ R.cells ∧ slots + ms ≤ R.slots) :
    vx_Run p l e R s m args below meth c H locs cells slots mc ms g rest (Qc (Value.ref b :: As).toArray) XC free := by
  obtain ⟨⟨⟨hrc, hrs, hfr, hlo, hws, hcw⟩, hcode, hini, hy, hlen, hl⟩, hx1, hx2⟩ := cw
  have hK : vx_Back l R p e below s args y 3 8 (PreOf R mc ms Pc) (PostOf Qc mc ms free) (vx_Post XC mc ms free) := vx_back (bytes := bytes) (maxL := maxL) (ret := none) hM hp.1 hrc hrs hfr hlo hws hcw (fun a' U hW => word_at hW (Or.inl (by first | rfl | simp [Cond.onTables, Cond.keeps, Cond.steady])) hini)
  obtain ⟨hx, hb, hml, ho, -⟩ := S
  have hPc := hp.2
  intro T hT X
  rcases vx_callIN X hx (bytes := bytes) (maxL := maxL) ho hx1 hl hx2 hcode hy hK hg (hsize.trans hml.symm) (a := b) (argsL := As) (rest := rest) (fun sig h => hn.trans (hlen sig h)) hstack hW (by rw [hb]; exact hdg)
    (fun vm₁ hW₁ => ⟨hf.1, hf.2, hPc (T.setVm vm₁) hT hW₁⟩) with ⟨v, vm₁, ⟨U', l2, c2, s2⟩, hW₁, X', ⟨g', mk, t, L, e1, e2, hq, h1, hL, h2, h3⟩, st⟩ | ⟨q, vm₁, ⟨U', l2, c2, s2⟩, hW₁, X', ⟨g', mk, t, L, E, ce, e1, e2, hq, hce, hcv, hcl, h1, hL, h2, h3⟩, st⟩
  · dsimp only [Pt.U, Pt.locs, Pt.cells, Pt.slots] at X' e1 e2 h1 h2 h3 st
    subst h1; subst h2; subst h3
    exact Or.inl ⟨v, (T.setVm vm₁).calling g' mk (Value.ref b :: As).toArray, t, U', L, hT, X', hL, e1, e2, hq, st⟩
  · dsimp only [Pt.U, Pt.locs, Pt.cells, Pt.slots] at X' e1 e2 h1 h2 h3 st hcl
    subst h1; subst h2; subst h3
    exact Or.inr ⟨q, (T.setVm vm₁).calling g' mk (Value.ref b :: As).toArray, t, U', L, E, ce, hT, X', hL, e1, e2, hq, hce, hcv, vx_cls hW₁ hcl, st⟩
end VXID
/-! ===== END ===== -/
end
section
def RX0 : String := "ChordSheet$Capo"
def TX0 : u_T := fun k => match k with
  | _ => ("", "", "", false)
def tyX0 : Nat → FieldType := fun k => match k with
  | _ => .int
theorem nmX0 : ∀ a, a < 0 → ∀ b, b < 0 → a ≠ b → (TX0 a).2.1 ≠ (TX0 b).2.1 := by decide +kernel
theorem tyX0_ok : ∀ k, k < 0 → parseFieldDescriptor (TX0 k).2.2.1 = some (tyX0 k) := by decide +kernel
abbrev cX0_difficultyAt : ByteArray := prog_2_method_2_code
def yX0_difficultyAt : MethodName := ⟨RX0, "difficultyAt", "(LChordSheet$Sheet;I)I"⟩
abbrev cX0_easiestFret : ByteArray := prog_2_method_3_code
def yX0_easiestFret : MethodName := ⟨RX0, "easiestFret", "(LChordSheet$Sheet;)I"⟩
abbrev cX0_shapeDifficulty : ByteArray := prog_2_method_4_code
def yX0_shapeDifficulty : MethodName := ⟨RX0, "shapeDifficulty", "(LChordSheet$Sheet;IZ)I"⟩
def RX1 : String := "ChordSheet$History"
def TX1 : u_T := fun k => match k with
  | 0 => ("ChordSheet$History", "states", "[LChordSheet$Sheet;", true)
  | 1 => ("ChordSheet$History", "oldest", "I", false)
  | _ => ("ChordSheet$History", "count", "I", false)
def tyX1 : Nat → FieldType := fun k => match k with
  | 0 => .array (.object "ChordSheet$Sheet")
  | 1 => .int
  | _ => .int
theorem nmX1 : ∀ a, a < 3 → ∀ b, b < 3 → a ≠ b → (TX1 a).2.1 ≠ (TX1 b).2.1 := by decide +kernel
theorem tyX1_ok : ∀ k, k < 3 → parseFieldDescriptor (TX1 k).2.2.1 = some (tyX1 k) := by decide +kernel
abbrev cX1_init : ByteArray := prog_3_method_1_code
def yX1_init : MethodName := ⟨RX1, "<init>", "()V"⟩
abbrev cX1_isEmpty : ByteArray := prog_3_method_2_code
def yX1_isEmpty : MethodName := ⟨RX1, "isEmpty", "()Z"⟩
abbrev cX1_keep : ByteArray := prog_3_method_3_code
def yX1_keep : MethodName := ⟨RX1, "keep", "(LChordSheet$Sheet;)V"⟩
abbrev cX1_restore : ByteArray := prog_3_method_4_code
def yX1_restore : MethodName := ⟨RX1, "restore", "(LChordSheet$Sheet;)I"⟩
abbrev cX1_stateAt : ByteArray := prog_3_method_5_code
def yX1_stateAt : MethodName := ⟨RX1, "stateAt", "(I)LChordSheet$Sheet;"⟩
def RX2 : String := "ChordSheet$Keys"
def TX2 : u_T := fun k => match k with
  | _ => ("", "", "", false)
def tyX2 : Nat → FieldType := fun k => match k with
  | _ => .int
theorem nmX2 : ∀ a, a < 0 → ∀ b, b < 0 → a ≠ b → (TX2 a).2.1 ≠ (TX2 b).2.1 := by decide +kernel
theorem tyX2_ok : ∀ k, k < 0 → parseFieldDescriptor (TX2 k).2.2.1 = some (tyX2 k) := by decide +kernel
abbrev cX2_signatureOf : ByteArray := prog_4_method_2_code
def yX2_signatureOf : MethodName := ⟨RX2, "signatureOf", "(IZ)I"⟩
abbrev cX2_tonicOf : ByteArray := prog_4_method_3_code
def yX2_tonicOf : MethodName := ⟨RX2, "tonicOf", "(IZ)I"⟩
abbrev cX2_simplestSignature : ByteArray := prog_4_method_4_code
def yX2_simplestSignature : MethodName := ⟨RX2, "simplestSignature", "(IZZ)I"⟩
abbrev cX2_degreeOf : ByteArray := prog_4_method_5_code
def yX2_degreeOf : MethodName := ⟨RX2, "degreeOf", "(IIZ)I"⟩
abbrev cX2_scoreOf : ByteArray := prog_4_method_6_code
def yX2_scoreOf : MethodName := ⟨RX2, "scoreOf", "(LChordSheet$Sheet;IZ)I"⟩
abbrev cX2_best : ByteArray := prog_4_method_7_code
def yX2_best : MethodName := ⟨RX2, "best", "(LChordSheet$Sheet;)I"⟩
abbrev cX2_bestSignature : ByteArray := prog_4_method_8_code
def yX2_bestSignature : MethodName := ⟨RX2, "bestSignature", "(LChordSheet$Sheet;Z)I"⟩
abbrev cX2_isInScale : ByteArray := prog_4_method_9_code
def yX2_isInScale : MethodName := ⟨RX2, "isInScale", "(II)Z"⟩
def RX3 : String := "ChordSheet$Layout"
def TX3 : u_T := fun k => match k with
  | 0 => ("ChordSheet$Layout", "sheet", "LChordSheet$Sheet;", true)
  | 1 => ("ChordSheet$Layout", "chordRow", "LChordSheet$Row;", true)
  | 2 => ("ChordSheet$Layout", "lyricRow", "LChordSheet$Row;", true)
  | 3 => ("ChordSheet$Layout", "line", "I", false)
  | 4 => ("ChordSheet$Layout", "width", "I", false)
  | 5 => ("ChordSheet$Layout", "begin", "I", false)
  | 6 => ("ChordSheet$Layout", "chord", "I", false)
  | 7 => ("ChordSheet$Layout", "end", "I", false)
  | 8 => ("ChordSheet$Layout", "endChord", "I", false)
  | 9 => ("ChordSheet$Layout", "endChordSize", "I", false)
  | _ => ("ChordSheet$Layout", "endLyricSize", "I", false)
def tyX3 : Nat → FieldType := fun k => match k with
  | 0 => .object "ChordSheet$Sheet"
  | 1 => .object "ChordSheet$Row"
  | 2 => .object "ChordSheet$Row"
  | 3 => .int
  | 4 => .int
  | 5 => .int
  | 6 => .int
  | 7 => .int
  | 8 => .int
  | 9 => .int
  | _ => .int
theorem nmX3 : ∀ a, a < 11 → ∀ b, b < 11 → a ≠ b → (TX3 a).2.1 ≠ (TX3 b).2.1 := by decide +kernel
theorem tyX3_ok : ∀ k, k < 11 → parseFieldDescriptor (TX3 k).2.2.1 = some (tyX3 k) := by decide +kernel
abbrev cX3_init : ByteArray := prog_5_method_1_code
def yX3_init : MethodName := ⟨RX3, "<init>", "(LChordSheet$Sheet;)V"⟩
abbrev cX3_countPairs : ByteArray := prog_5_method_2_code
def yX3_countPairs : MethodName := ⟨RX3, "countPairs", "(II)I"⟩
abbrev cX3_find : ByteArray := prog_5_method_3_code
def yX3_find : MethodName := ⟨RX3, "find", "(IIII)LChordSheet$Row;"⟩
abbrev cX3_start : ByteArray := prog_5_method_4_code
def yX3_start : MethodName := ⟨RX3, "start", "(II)V"⟩
abbrev cX3_layNext : ByteArray := prog_5_method_5_code
def yX3_layNext : MethodName := ⟨RX3, "layNext", "()Z"⟩
abbrev cX3_isInnerBreak : ByteArray := prog_5_method_6_code
def yX3_isInnerBreak : MethodName := ⟨RX3, "isInnerBreak", "(I)Z"⟩
abbrev cX3_isLetter : ByteArray := prog_5_method_7_code
def yX3_isLetter : MethodName := ⟨RX3, "isLetter", "(I)Z"⟩
abbrev cX3_offerEnd : ByteArray := prog_5_method_8_code
def yX3_offerEnd : MethodName := ⟨RX3, "offerEnd", "(I)Z"⟩
abbrev cX3_cutBack : ByteArray := prog_5_method_9_code
def yX3_cutBack : MethodName := ⟨RX3, "cutBack", "()V"⟩
abbrev cX3_placeChords : ByteArray := prog_5_method_10_code
def yX3_placeChords : MethodName := ⟨RX3, "placeChords", "(I)V"⟩
def RX4 : String := "ChordSheet$Notes"
def TX4 : u_T := fun k => match k with
  | _ => ("", "", "", false)
def tyX4 : Nat → FieldType := fun k => match k with
  | _ => .int
theorem nmX4 : ∀ a, a < 0 → ∀ b, b < 0 → a ≠ b → (TX4 a).2.1 ≠ (TX4 b).2.1 := by decide +kernel
theorem tyX4_ok : ∀ k, k < 0 → parseFieldDescriptor (TX4 k).2.2.1 = some (tyX4 k) := by decide +kernel
abbrev cX4_pitchClass : ByteArray := prog_6_method_2_code
def yX4_pitchClass : MethodName := ⟨RX4, "pitchClass", "(I)I"⟩
abbrev cX4_raised : ByteArray := prog_6_method_3_code
def yX4_raised : MethodName := ⟨RX4, "raised", "(II)I"⟩
abbrev cX4_raisedSet : ByteArray := prog_6_method_4_code
def yX4_raisedSet : MethodName := ⟨RX4, "raisedSet", "(II)I"⟩
abbrev cX4_placeFrom : ByteArray := prog_6_method_5_code
def yX4_placeFrom : MethodName := ⟨RX4, "placeFrom", "(II)I"⟩
abbrev cX4_natural : ByteArray := prog_6_method_6_code
def yX4_natural : MethodName := ⟨RX4, "natural", "(I)I"⟩
abbrev cX4_accidentals : ByteArray := prog_6_method_7_code
def yX4_accidentals : MethodName := ⟨RX4, "accidentals", "(I)I"⟩
abbrev cX4_spelled : ByteArray := prog_6_method_8_code
def yX4_spelled : MethodName := ⟨RX4, "spelled", "(IIZ)I"⟩
abbrev cX4_write : ByteArray := prog_6_method_9_code
def yX4_write : MethodName := ⟨RX4, "write", "(ILChordSheet$Row;)V"⟩
def RX5 : String := "ChordSheet$Quality"
def TX5 : u_T := fun k => match k with
  | _ => ("", "", "", false)
def tyX5 : Nat → FieldType := fun k => match k with
  | _ => .int
theorem nmX5 : ∀ a, a < 0 → ∀ b, b < 0 → a ≠ b → (TX5 a).2.1 ≠ (TX5 b).2.1 := by decide +kernel
theorem tyX5_ok : ∀ k, k < 0 → parseFieldDescriptor (TX5 k).2.2.1 = some (tyX5 k) := by decide +kernel
abbrev cX5_count : ByteArray := prog_7_method_4_code
def yX5_count : MethodName := ⟨RX5, "count", "()I"⟩
abbrev cX5_at : ByteArray := prog_7_method_5_code
def yX5_at : MethodName := ⟨RX5, "at", "(I)LChordSheet$Quality;"⟩
abbrev cX5_isEasyOn : ByteArray := prog_7_method_6_code
def yX5_isEasyOn : MethodName := ⟨RX5, "isEasyOn", "(I)Z"⟩
abbrev cX5_tonesOn : ByteArray := prog_7_method_7_code
def yX5_tonesOn : MethodName := ⟨RX5, "tonesOn", "(I)I"⟩
def RX6 : String := "ChordSheet$Reader"
def TX6 : u_T := fun k => match k with
  | 0 => ("ChordSheet$Reader", "text", "LChordSheet$Row;", true)
  | 1 => ("ChordSheet$Reader", "stop", "I", false)
  | 2 => ("ChordSheet$Reader", "root", "I", false)
  | 3 => ("ChordSheet$Reader", "quality", "I", false)
  | 4 => ("ChordSheet$Reader", "bass", "I", false)
  | _ => ("ChordSheet$Reader", "whole", "Z", false)
def tyX6 : Nat → FieldType := fun k => match k with
  | 0 => .object "ChordSheet$Row"
  | 1 => .int
  | 2 => .int
  | 3 => .int
  | 4 => .int
  | _ => .boolean
theorem nmX6 : ∀ a, a < 6 → ∀ b, b < 6 → a ≠ b → (TX6 a).2.1 ≠ (TX6 b).2.1 := by decide +kernel
theorem tyX6_ok : ∀ k, k < 6 → parseFieldDescriptor (TX6 k).2.2.1 = some (tyX6 k) := by decide +kernel
abbrev cX6_init : ByteArray := prog_8_method_1_code
def yX6_init : MethodName := ⟨RX6, "<init>", "(LChordSheet$Row;)V"⟩
abbrev cX6_root : ByteArray := prog_8_method_2_code
def yX6_root : MethodName := ⟨RX6, "root", "()I"⟩
abbrev cX6_quality : ByteArray := prog_8_method_3_code
def yX6_quality : MethodName := ⟨RX6, "quality", "()I"⟩
abbrev cX6_bass : ByteArray := prog_8_method_4_code
def yX6_bass : MethodName := ⟨RX6, "bass", "()I"⟩
abbrev cX6_readSheet : ByteArray := prog_8_method_5_code
def yX6_readSheet : MethodName := ⟨RX6, "readSheet", "(LChordSheet$Sheet;)I"⟩
abbrev cX6_readSingleChord : ByteArray := prog_8_method_6_code
def yX6_readSingleChord : MethodName := ⟨RX6, "readSingleChord", "()I"⟩
abbrev cX6_readChord : ByteArray := prog_8_method_7_code
def yX6_readChord : MethodName := ⟨RX6, "readChord", "(I)V"⟩
abbrev cX6_readNote : ByteArray := prog_8_method_8_code
def yX6_readNote : MethodName := ⟨RX6, "readNote", "()I"⟩
abbrev cX6_readQuality : ByteArray := prog_8_method_9_code
def yX6_readQuality : MethodName := ⟨RX6, "readQuality", "()Z"⟩
abbrev cX6_sharedLength : ByteArray := prog_8_method_10_code
def yX6_sharedLength : MethodName := ⟨RX6, "sharedLength", "(Ljava/lang/String;)I"⟩
def RX7 : String := "ChordSheet$Row"
def TX7 : u_T := fun k => match k with
  | 0 => ("ChordSheet$Row", "signs", "[C", true)
  | _ => ("ChordSheet$Row", "size", "I", false)
def tyX7 : Nat → FieldType := fun k => match k with
  | 0 => .array .char
  | _ => .int
theorem nmX7 : ∀ a, a < 2 → ∀ b, b < 2 → a ≠ b → (TX7 a).2.1 ≠ (TX7 b).2.1 := by decide +kernel
theorem tyX7_ok : ∀ k, k < 2 → parseFieldDescriptor (TX7 k).2.2.1 = some (tyX7 k) := by decide +kernel
abbrev cX7_init : ByteArray := prog_9_method_1_code
def yX7_init : MethodName := ⟨RX7, "<init>", "()V"⟩
abbrev cX7_size : ByteArray := prog_9_method_2_code
def yX7_size : MethodName := ⟨RX7, "size", "()I"⟩
abbrev cX7_at : ByteArray := prog_9_method_3_code
def yX7_at : MethodName := ⟨RX7, "at", "(I)I"⟩
abbrev cX7_add : ByteArray := prog_9_method_4_code
def yX7_add : MethodName := ⟨RX7, "add", "(C)V"⟩
abbrev cX7_addAll : ByteArray := prog_9_method_5_code
def yX7_addAll : MethodName := ⟨RX7, "addAll", "(Ljava/lang/String;)V"⟩
abbrev cX7_fillTo : ByteArray := prog_9_method_6_code
def yX7_fillTo : MethodName := ⟨RX7, "fillTo", "(IC)V"⟩
abbrev cX7_cutTo : ByteArray := prog_9_method_7_code
def yX7_cutTo : MethodName := ⟨RX7, "cutTo", "(I)V"⟩
def RX8 : String := "ChordSheet$Sheet"
def TX8 : u_T := fun k => match k with
  | 0 => ("ChordSheet$Sheet", "letters", "[C", true)
  | 1 => ("ChordSheet$Sheet", "starts", "[I", true)
  | 2 => ("ChordSheet$Sheet", "lineCount", "I", false)
  | 3 => ("ChordSheet$Sheet", "chordFields", "[I", true)
  | 4 => ("ChordSheet$Sheet", "chordCount", "I", false)
  | 5 => ("ChordSheet$Sheet", "signature", "I", false)
  | _ => ("ChordSheet$Sheet", "minor", "Z", false)
def tyX8 : Nat → FieldType := fun k => match k with
  | 0 => .array .char
  | 1 => .array .int
  | 2 => .int
  | 3 => .array .int
  | 4 => .int
  | 5 => .int
  | _ => .boolean
theorem nmX8 : ∀ a, a < 7 → ∀ b, b < 7 → a ≠ b → (TX8 a).2.1 ≠ (TX8 b).2.1 := by decide +kernel
theorem tyX8_ok : ∀ k, k < 7 → parseFieldDescriptor (TX8 k).2.2.1 = some (tyX8 k) := by decide +kernel
abbrev cX8_init : ByteArray := prog_10_method_1_code
def yX8_init : MethodName := ⟨RX8, "<init>", "()V"⟩
abbrev cX8_copyFrom : ByteArray := prog_10_method_2_code
def yX8_copyFrom : MethodName := ⟨RX8, "copyFrom", "(LChordSheet$Sheet;)V"⟩
abbrev cX8_clear : ByteArray := prog_10_method_3_code
def yX8_clear : MethodName := ⟨RX8, "clear", "()V"⟩
abbrev cX8_lineCount : ByteArray := prog_10_method_4_code
def yX8_lineCount : MethodName := ⟨RX8, "lineCount", "()I"⟩
abbrev cX8_chordCount : ByteArray := prog_10_method_5_code
def yX8_chordCount : MethodName := ⟨RX8, "chordCount", "()I"⟩
abbrev cX8_hasLine : ByteArray := prog_10_method_6_code
def yX8_hasLine : MethodName := ⟨RX8, "hasLine", "(I)Z"⟩
abbrev cX8_lengthOf : ByteArray := prog_10_method_7_code
def yX8_lengthOf : MethodName := ⟨RX8, "lengthOf", "(I)I"⟩
abbrev cX8_letterAt : ByteArray := prog_10_method_8_code
def yX8_letterAt : MethodName := ⟨RX8, "letterAt", "(II)I"⟩
abbrev cX8_addLetter : ByteArray := prog_10_method_9_code
def yX8_addLetter : MethodName := ⟨RX8, "addLetter", "(C)V"⟩
abbrev cX8_beginLine : ByteArray := prog_10_method_10_code
def yX8_beginLine : MethodName := ⟨RX8, "beginLine", "()V"⟩
abbrev cX8_get : ByteArray := prog_10_method_11_code
def yX8_get : MethodName := ⟨RX8, "get", "(II)I"⟩
abbrev cX8_put : ByteArray := prog_10_method_12_code
def yX8_put : MethodName := ⟨RX8, "put", "(IIII)V"⟩
abbrev cX8_append : ByteArray := prog_10_method_13_code
def yX8_append : MethodName := ⟨RX8, "append", "(III)V"⟩
abbrev cX8_insert : ByteArray := prog_10_method_14_code
def yX8_insert : MethodName := ⟨RX8, "insert", "(IIIII)I"⟩
abbrev cX8_takeOut : ByteArray := prog_10_method_15_code
def yX8_takeOut : MethodName := ⟨RX8, "takeOut", "(I)V"⟩
abbrev cX8_countUpTo : ByteArray := prog_10_method_16_code
def yX8_countUpTo : MethodName := ⟨RX8, "countUpTo", "(II)I"⟩
abbrev cX8_isAt : ByteArray := prog_10_method_17_code
def yX8_isAt : MethodName := ⟨RX8, "isAt", "(III)Z"⟩
abbrev cX8_tonesOf : ByteArray := prog_10_method_18_code
def yX8_tonesOf : MethodName := ⟨RX8, "tonesOf", "(I)I"⟩
abbrev cX8_writeName : ByteArray := prog_10_method_19_code
def yX8_writeName : MethodName := ⟨RX8, "writeName", "(ILChordSheet$Row;)V"⟩
abbrev cX8_spell : ByteArray := prog_10_method_20_code
def yX8_spell : MethodName := ⟨RX8, "spell", "(IZ)I"⟩
abbrev cX8_addTo : ByteArray := prog_10_method_21_code
def yX8_addTo : MethodName := ⟨RX8, "addTo", "(J)J"⟩
abbrev cX8_spellField : ByteArray := prog_10_method_22_code
def yX8_spellField : MethodName := ⟨RX8, "spellField", "(IIIZ)I"⟩
abbrev cX8_startOf : ByteArray := prog_10_method_23_code
def yX8_startOf : MethodName := ⟨RX8, "startOf", "(I)I"⟩
abbrev cX8_set : ByteArray := prog_10_method_24_code
def yX8_set : MethodName := ⟨RX8, "set", "(III)V"⟩
abbrev cX8_isUpTo : ByteArray := prog_10_method_25_code
def yX8_isUpTo : MethodName := ⟨RX8, "isUpTo", "(III)Z"⟩
def RX9 : String := "ChordSheet"
def TX9 : u_T := fun k => match k with
  | 0 => ("ChordSheet", "text", "LChordSheet$Row;", true)
  | 1 => ("ChordSheet", "name", "LChordSheet$Row;", true)
  | 2 => ("ChordSheet", "sheet", "LChordSheet$Sheet;", true)
  | 3 => ("ChordSheet", "draft", "LChordSheet$Sheet;", true)
  | 4 => ("ChordSheet", "history", "LChordSheet$History;", true)
  | 5 => ("ChordSheet", "reader", "LChordSheet$Reader;", true)
  | 6 => ("ChordSheet", "layout", "LChordSheet$Layout;", true)
  | 7 => ("ChordSheet", "simple", "Z", false)
  | 8 => ("ChordSheet", "flats", "Z", false)
  | _ => ("ChordSheet", "width", "I", false)
def tyX9 : Nat → FieldType := fun k => match k with
  | 0 => .object "ChordSheet$Row"
  | 1 => .object "ChordSheet$Row"
  | 2 => .object "ChordSheet$Sheet"
  | 3 => .object "ChordSheet$Sheet"
  | 4 => .object "ChordSheet$History"
  | 5 => .object "ChordSheet$Reader"
  | 6 => .object "ChordSheet$Layout"
  | 7 => .boolean
  | 8 => .boolean
  | _ => .int
theorem nmX9 : ∀ a, a < 10 → ∀ b, b < 10 → a ≠ b → (TX9 a).2.1 ≠ (TX9 b).2.1 := by decide +kernel
theorem tyX9_ok : ∀ k, k < 10 → parseFieldDescriptor (TX9 k).2.2.1 = some (tyX9 k) := by decide +kernel
abbrev cX9_init : ByteArray := prog_1_method_1_code
def yX9_init : MethodName := ⟨RX9, "<init>", "()V"⟩
abbrev cX9_type : ByteArray := prog_1_method_2_code
def yX9_type : MethodName := ⟨RX9, "type", "(I)I"⟩
abbrev cX9_clearText : ByteArray := prog_1_method_3_code
def yX9_clearText : MethodName := ⟨RX9, "clearText", "()I"⟩
abbrev cX9_read : ByteArray := prog_1_method_4_code
def yX9_read : MethodName := ⟨RX9, "read", "()I"⟩
abbrev cX9_setSimple : ByteArray := prog_1_method_5_code
def yX9_setSimple : MethodName := ⟨RX9, "setSimple", "(Z)Z"⟩
abbrev cX9_setFlats : ByteArray := prog_1_method_6_code
def yX9_setFlats : MethodName := ⟨RX9, "setFlats", "(Z)Z"⟩
abbrev cX9_setWidth : ByteArray := prog_1_method_7_code
def yX9_setWidth : MethodName := ⟨RX9, "setWidth", "(I)I"⟩
abbrev cX9_lines : ByteArray := prog_1_method_8_code
def yX9_lines : MethodName := ⟨RX9, "lines", "()I"⟩
abbrev cX9_lyrics : ByteArray := prog_1_method_9_code
def yX9_lyrics : MethodName := ⟨RX9, "lyrics", "(I)I"⟩
abbrev cX9_lyric : ByteArray := prog_1_method_10_code
def yX9_lyric : MethodName := ⟨RX9, "lyric", "(II)I"⟩
abbrev cX9_chords : ByteArray := prog_1_method_11_code
def yX9_chords : MethodName := ⟨RX9, "chords", "()I"⟩
abbrev cX9_lineOf : ByteArray := prog_1_method_12_code
def yX9_lineOf : MethodName := ⟨RX9, "lineOf", "(I)I"⟩
abbrev cX9_columnOf : ByteArray := prog_1_method_13_code
def yX9_columnOf : MethodName := ⟨RX9, "columnOf", "(I)I"⟩
abbrev cX9_rootOf : ByteArray := prog_1_method_14_code
def yX9_rootOf : MethodName := ⟨RX9, "rootOf", "(I)I"⟩
abbrev cX9_qualityOf : ByteArray := prog_1_method_15_code
def yX9_qualityOf : MethodName := ⟨RX9, "qualityOf", "(I)I"⟩
abbrev cX9_bassOf : ByteArray := prog_1_method_16_code
def yX9_bassOf : MethodName := ⟨RX9, "bassOf", "(I)I"⟩
abbrev cX9_nameChar : ByteArray := prog_1_method_17_code
def yX9_nameChar : MethodName := ⟨RX9, "nameChar", "(II)I"⟩
abbrev cX9_setChord : ByteArray := prog_1_method_18_code
def yX9_setChord : MethodName := ⟨RX9, "setChord", "(I)I"⟩
abbrev cX9_addChord : ByteArray := prog_1_method_19_code
def yX9_addChord : MethodName := ⟨RX9, "addChord", "(II)I"⟩
abbrev cX9_removeChord : ByteArray := prog_1_method_20_code
def yX9_removeChord : MethodName := ⟨RX9, "removeChord", "(I)I"⟩
abbrev cX9_moveChord : ByteArray := prog_1_method_21_code
def yX9_moveChord : MethodName := ⟨RX9, "moveChord", "(II)I"⟩
abbrev cX9_commonTones : ByteArray := prog_1_method_22_code
def yX9_commonTones : MethodName := ⟨RX9, "commonTones", "(I)I"⟩
abbrev cX9_degree : ByteArray := prog_1_method_23_code
def yX9_degree : MethodName := ⟨RX9, "degree", "(I)I"⟩
abbrev cX9_tonic : ByteArray := prog_1_method_24_code
def yX9_tonic : MethodName := ⟨RX9, "tonic", "()I"⟩
abbrev cX9_isMinor : ByteArray := prog_1_method_25_code
def yX9_isMinor : MethodName := ⟨RX9, "isMinor", "()Z"⟩
abbrev cX9_signature : ByteArray := prog_1_method_26_code
def yX9_signature : MethodName := ⟨RX9, "signature", "()I"⟩
abbrev cX9_setKey : ByteArray := prog_1_method_27_code
def yX9_setKey : MethodName := ⟨RX9, "setKey", "(IZ)I"⟩
abbrev cX9_score : ByteArray := prog_1_method_28_code
def yX9_score : MethodName := ⟨RX9, "score", "(IZ)I"⟩
abbrev cX9_findKey : ByteArray := prog_1_method_29_code
def yX9_findKey : MethodName := ⟨RX9, "findKey", "()I"⟩
abbrev cX9_transpose : ByteArray := prog_1_method_30_code
def yX9_transpose : MethodName := ⟨RX9, "transpose", "(I)I"⟩
abbrev cX9_respell : ByteArray := prog_1_method_31_code
def yX9_respell : MethodName := ⟨RX9, "respell", "()I"⟩
abbrev cX9_difficulty : ByteArray := prog_1_method_32_code
def yX9_difficulty : MethodName := ⟨RX9, "difficulty", "(I)I"⟩
abbrev cX9_bestCapo : ByteArray := prog_1_method_33_code
def yX9_bestCapo : MethodName := ⟨RX9, "bestCapo", "()I"⟩
abbrev cX9_pairs : ByteArray := prog_1_method_34_code
def yX9_pairs : MethodName := ⟨RX9, "pairs", "(I)I"⟩
abbrev cX9_rowLength : ByteArray := prog_1_method_35_code
def yX9_rowLength : MethodName := ⟨RX9, "rowLength", "(III)I"⟩
abbrev cX9_rowChar : ByteArray := prog_1_method_36_code
def yX9_rowChar : MethodName := ⟨RX9, "rowChar", "(IIII)I"⟩
abbrev cX9_undo : ByteArray := prog_1_method_37_code
def yX9_undo : MethodName := ⟨RX9, "undo", "()I"⟩
abbrev cX9_fingerprint : ByteArray := prog_1_method_38_code
def yX9_fingerprint : MethodName := ⟨RX9, "fingerprint", "()J"⟩
abbrev cX9_takeKey : ByteArray := prog_1_method_39_code
def yX9_takeKey : MethodName := ⟨RX9, "takeKey", "(I)V"⟩
abbrev cX9_requireLine : ByteArray := prog_1_method_40_code
def yX9_requireLine : MethodName := ⟨RX9, "requireLine", "(I)V"⟩
abbrev cX9_requireChordColumn : ByteArray := prog_1_method_41_code
def yX9_requireChordColumn : MethodName := ⟨RX9, "requireChordColumn", "(II)V"⟩
abbrev cX9_requireChord : ByteArray := prog_1_method_42_code
def yX9_requireChord : MethodName := ⟨RX9, "requireChord", "(I)V"⟩
abbrev cX9_requireIndex : ByteArray := prog_1_method_43_code
def yX9_requireIndex : MethodName := ⟨RX9, "requireIndex", "(I)V"⟩
abbrev cX9_requireTonic : ByteArray := prog_1_method_44_code
def yX9_requireTonic : MethodName := ⟨RX9, "requireTonic", "(IZ)V"⟩
def RX10 : String := "ChordSheetModel"
def TX10 : u_T := fun k => match k with
  | 0 => ("ChordSheetModel", "v", "[I", true)
  | 1 => ("ChordSheetModel", "past", "[I", true)
  | 2 => ("ChordSheetModel", "states", "I", false)
  | 3 => ("ChordSheetModel", "text", "[I", true)
  | 4 => ("ChordSheetModel", "typed", "I", false)
  | 5 => ("ChordSheetModel", "isSimple", "Z", false)
  | 6 => ("ChordSheetModel", "isFlat", "Z", false)
  | 7 => ("ChordSheetModel", "width", "I", false)
  | 8 => ("ChordSheetModel", "thrown", "I", false)
  | 9 => ("ChordSheetModel", "letters", "[C", true)
  | 10 => ("ChordSheetModel", "qualities", "[C", true)
  | 11 => ("ChordSheetModel", "at", "I", false)
  | 12 => ("ChordSheetModel", "note", "I", false)
  | 13 => ("ChordSheetModel", "readRoot", "I", false)
  | 14 => ("ChordSheetModel", "readQuality", "I", false)
  | 15 => ("ChordSheetModel", "readBass", "I", false)
  | 16 => ("ChordSheetModel", "isWhole", "Z", false)
  | 17 => ("ChordSheetModel", "made", "[I", true)
  | 18 => ("ChordSheetModel", "name", "[I", true)
  | 19 => ("ChordSheetModel", "named", "I", false)
  | 20 => ("ChordSheetModel", "upper", "[I", true)
  | 21 => ("ChordSheetModel", "lower", "[I", true)
  | 22 => ("ChordSheetModel", "uppers", "I", false)
  | _ => ("ChordSheetModel", "lowers", "I", false)
def tyX10 : Nat → FieldType := fun k => match k with
  | 0 => .array .int
  | 1 => .array .int
  | 2 => .int
  | 3 => .array .int
  | 4 => .int
  | 5 => .boolean
  | 6 => .boolean
  | 7 => .int
  | 8 => .int
  | 9 => .array .char
  | 10 => .array .char
  | 11 => .int
  | 12 => .int
  | 13 => .int
  | 14 => .int
  | 15 => .int
  | 16 => .boolean
  | 17 => .array .int
  | 18 => .array .int
  | 19 => .int
  | 20 => .array .int
  | 21 => .array .int
  | 22 => .int
  | _ => .int
theorem nmX10 : ∀ a, a < 24 → ∀ b, b < 24 → a ≠ b → (TX10 a).2.1 ≠ (TX10 b).2.1 := by decide +kernel
theorem tyX10_ok : ∀ k, k < 24 → parseFieldDescriptor (TX10 k).2.2.1 = some (tyX10 k) := by decide +kernel
abbrev cX10_init : ByteArray := prog_12_method_1_code
def yX10_init : MethodName := ⟨RX10, "<init>", "()V"⟩
abbrev cX10_thrown : ByteArray := prog_12_method_2_code
def yX10_thrown : MethodName := ⟨RX10, "thrown", "()I"⟩
abbrev cX10_in : ByteArray := prog_12_method_3_code
def yX10_in : MethodName := ⟨RX10, "in", "(III)Z"⟩
abbrev cX10_fails : ByteArray := prog_12_method_4_code
def yX10_fails : MethodName := ⟨RX10, "fails", "(I)I"⟩
abbrev cX10_acts : ByteArray := prog_12_method_5_code
def yX10_acts : MethodName := ⟨RX10, "acts", "()V"⟩
abbrev cX10_chord : ByteArray := prog_12_method_6_code
def yX10_chord : MethodName := ⟨RX10, "chord", "(I)I"⟩
abbrev cX10_mod12 : ByteArray := prog_12_method_7_code
def yX10_mod12 : MethodName := ⟨RX10, "mod12", "(I)I"⟩
abbrev cX10_pitch : ByteArray := prog_12_method_8_code
def yX10_pitch : MethodName := ⟨RX10, "pitch", "(I)I"⟩
abbrev cX10_placeOf : ByteArray := prog_12_method_9_code
def yX10_placeOf : MethodName := ⟨RX10, "placeOf", "(I)I"⟩
abbrev cX10_sign : ByteArray := prog_12_method_10_code
def yX10_sign : MethodName := ⟨RX10, "sign", "(I)I"⟩
abbrev cX10_readsNote : ByteArray := prog_12_method_11_code
def yX10_readsNote : MethodName := ⟨RX10, "readsNote", "()Z"⟩
abbrev cX10_likeQuality : ByteArray := prog_12_method_12_code
def yX10_likeQuality : MethodName := ⟨RX10, "likeQuality", "(I)I"⟩
abbrev cX10_readsChord : ByteArray := prog_12_method_13_code
def yX10_readsChord : MethodName := ⟨RX10, "readsChord", "(I)Z"⟩
abbrev cX10_readsSheet : ByteArray := prog_12_method_14_code
def yX10_readsSheet : MethodName := ⟨RX10, "readsSheet", "()Z"⟩
abbrev cX10_type : ByteArray := prog_12_method_15_code
def yX10_type : MethodName := ⟨RX10, "type", "(I)I"⟩
abbrev cX10_clearText : ByteArray := prog_12_method_16_code
def yX10_clearText : MethodName := ⟨RX10, "clearText", "()I"⟩
abbrev cX10_read : ByteArray := prog_12_method_17_code
def yX10_read : MethodName := ⟨RX10, "read", "()I"⟩
abbrev cX10_setSimple : ByteArray := prog_12_method_18_code
def yX10_setSimple : MethodName := ⟨RX10, "setSimple", "(Z)Z"⟩
abbrev cX10_setFlats : ByteArray := prog_12_method_19_code
def yX10_setFlats : MethodName := ⟨RX10, "setFlats", "(Z)Z"⟩
abbrev cX10_setWidth : ByteArray := prog_12_method_20_code
def yX10_setWidth : MethodName := ⟨RX10, "setWidth", "(I)I"⟩
abbrev cX10_lines : ByteArray := prog_12_method_21_code
def yX10_lines : MethodName := ⟨RX10, "lines", "()I"⟩
abbrev cX10_isLine : ByteArray := prog_12_method_22_code
def yX10_isLine : MethodName := ⟨RX10, "isLine", "(I)Z"⟩
abbrev cX10_lengthOf : ByteArray := prog_12_method_23_code
def yX10_lengthOf : MethodName := ⟨RX10, "lengthOf", "(I)I"⟩
abbrev cX10_lyrics : ByteArray := prog_12_method_24_code
def yX10_lyrics : MethodName := ⟨RX10, "lyrics", "(I)I"⟩
abbrev cX10_lyricAt : ByteArray := prog_12_method_25_code
def yX10_lyricAt : MethodName := ⟨RX10, "lyricAt", "(II)I"⟩
abbrev cX10_lyric : ByteArray := prog_12_method_26_code
def yX10_lyric : MethodName := ⟨RX10, "lyric", "(II)I"⟩
abbrev cX10_chords : ByteArray := prog_12_method_27_code
def yX10_chords : MethodName := ⟨RX10, "chords", "()I"⟩
abbrev cX10_isChord : ByteArray := prog_12_method_28_code
def yX10_isChord : MethodName := ⟨RX10, "isChord", "(I)Z"⟩
abbrev cX10_told : ByteArray := prog_12_method_29_code
def yX10_told : MethodName := ⟨RX10, "told", "(II)I"⟩
abbrev cX10_lineOf : ByteArray := prog_12_method_30_code
def yX10_lineOf : MethodName := ⟨RX10, "lineOf", "(I)I"⟩
abbrev cX10_columnOf : ByteArray := prog_12_method_31_code
def yX10_columnOf : MethodName := ⟨RX10, "columnOf", "(I)I"⟩
abbrev cX10_rootOf : ByteArray := prog_12_method_32_code
def yX10_rootOf : MethodName := ⟨RX10, "rootOf", "(I)I"⟩
abbrev cX10_qualityOf : ByteArray := prog_12_method_33_code
def yX10_qualityOf : MethodName := ⟨RX10, "qualityOf", "(I)I"⟩
abbrev cX10_bassOf : ByteArray := prog_12_method_34_code
def yX10_bassOf : MethodName := ⟨RX10, "bassOf", "(I)I"⟩
abbrev cX10_tells : ByteArray := prog_12_method_35_code
def yX10_tells : MethodName := ⟨RX10, "tells", "(I)V"⟩
abbrev cX10_tellsNote : ByteArray := prog_12_method_36_code
def yX10_tellsNote : MethodName := ⟨RX10, "tellsNote", "(I)V"⟩
abbrev cX10_names : ByteArray := prog_12_method_37_code
def yX10_names : MethodName := ⟨RX10, "names", "(I)V"⟩
abbrev cX10_nameChar : ByteArray := prog_12_method_38_code
def yX10_nameChar : MethodName := ⟨RX10, "nameChar", "(II)I"⟩
abbrev cX10_isText : ByteArray := prog_12_method_39_code
def yX10_isText : MethodName := ⟨RX10, "isText", "()Z"⟩
abbrev cX10_puts : ByteArray := prog_12_method_40_code
def yX10_puts : MethodName := ⟨RX10, "puts", "(I)V"⟩
abbrev cX10_setChord : ByteArray := prog_12_method_41_code
def yX10_setChord : MethodName := ⟨RX10, "setChord", "(I)I"⟩
abbrev cX10_comesTo : ByteArray := prog_12_method_42_code
def yX10_comesTo : MethodName := ⟨RX10, "comesTo", "(II)I"⟩
abbrev cX10_opens : ByteArray := prog_12_method_43_code
def yX10_opens : MethodName := ⟨RX10, "opens", "(I)V"⟩
abbrev cX10_closes : ByteArray := prog_12_method_44_code
def yX10_closes : MethodName := ⟨RX10, "closes", "(I)V"⟩
abbrev cX10_addChord : ByteArray := prog_12_method_45_code
def yX10_addChord : MethodName := ⟨RX10, "addChord", "(II)I"⟩
abbrev cX10_removeChord : ByteArray := prog_12_method_46_code
def yX10_removeChord : MethodName := ⟨RX10, "removeChord", "(I)I"⟩
abbrev cX10_moveChord : ByteArray := prog_12_method_47_code
def yX10_moveChord : MethodName := ⟨RX10, "moveChord", "(II)I"⟩
abbrev cX10_tonesOf : ByteArray := prog_12_method_48_code
def yX10_tonesOf : MethodName := ⟨RX10, "tonesOf", "(I)I"⟩
abbrev cX10_hasTone : ByteArray := prog_12_method_49_code
def yX10_hasTone : MethodName := ⟨RX10, "hasTone", "(II)Z"⟩
abbrev cX10_commonTones : ByteArray := prog_12_method_50_code
def yX10_commonTones : MethodName := ⟨RX10, "commonTones", "(I)I"⟩
abbrev cX10_isInScale : ByteArray := prog_12_method_51_code
def yX10_isInScale : MethodName := ⟨RX10, "isInScale", "(II)Z"⟩
abbrev cX10_signatureNow : ByteArray := prog_12_method_52_code
def yX10_signatureNow : MethodName := ⟨RX10, "signatureNow", "()I"⟩
abbrev cX10_degree : ByteArray := prog_12_method_53_code
def yX10_degree : MethodName := ⟨RX10, "degree", "(I)I"⟩
abbrev cX10_tonic : ByteArray := prog_12_method_54_code
def yX10_tonic : MethodName := ⟨RX10, "tonic", "()I"⟩
abbrev cX10_isMinor : ByteArray := prog_12_method_55_code
def yX10_isMinor : MethodName := ⟨RX10, "isMinor", "()Z"⟩
abbrev cX10_signature : ByteArray := prog_12_method_56_code
def yX10_signature : MethodName := ⟨RX10, "signature", "()I"⟩
abbrev cX10_isKey : ByteArray := prog_12_method_57_code
def yX10_isKey : MethodName := ⟨RX10, "isKey", "(IZ)Z"⟩
abbrev cX10_setKey : ByteArray := prog_12_method_58_code
def yX10_setKey : MethodName := ⟨RX10, "setKey", "(IZ)I"⟩
abbrev cX10_isMinorChord : ByteArray := prog_12_method_59_code
def yX10_isMinorChord : MethodName := ⟨RX10, "isMinorChord", "(I)Z"⟩
abbrev cX10_scoreOf : ByteArray := prog_12_method_60_code
def yX10_scoreOf : MethodName := ⟨RX10, "scoreOf", "(IZ)I"⟩
abbrev cX10_score : ByteArray := prog_12_method_61_code
def yX10_score : MethodName := ⟨RX10, "score", "(IZ)I"⟩
abbrev cX10_found : ByteArray := prog_12_method_62_code
def yX10_found : MethodName := ⟨RX10, "found", "()I"⟩
abbrev cX10_findKey : ByteArray := prog_12_method_63_code
def yX10_findKey : MethodName := ⟨RX10, "findKey", "()I"⟩
abbrev cX10_spelled : ByteArray := prog_12_method_64_code
def yX10_spelled : MethodName := ⟨RX10, "spelled", "(I)I"⟩
abbrev cX10_spells : ByteArray := prog_12_method_65_code
def yX10_spells : MethodName := ⟨RX10, "spells", "(I)I"⟩
abbrev cX10_transpose : ByteArray := prog_12_method_66_code
def yX10_transpose : MethodName := ⟨RX10, "transpose", "(I)I"⟩
abbrev cX10_respell : ByteArray := prog_12_method_67_code
def yX10_respell : MethodName := ⟨RX10, "respell", "()I"⟩
abbrev cX10_isEasy : ByteArray := prog_12_method_68_code
def yX10_isEasy : MethodName := ⟨RX10, "isEasy", "(II)Z"⟩
abbrev cX10_difficultyOf : ByteArray := prog_12_method_69_code
def yX10_difficultyOf : MethodName := ⟨RX10, "difficultyOf", "(I)I"⟩
abbrev cX10_difficulty : ByteArray := prog_12_method_70_code
def yX10_difficulty : MethodName := ⟨RX10, "difficulty", "(I)I"⟩
abbrev cX10_bestCapo : ByteArray := prog_12_method_71_code
def yX10_bestCapo : MethodName := ⟨RX10, "bestCapo", "()I"⟩
abbrev cX10_laysChords : ByteArray := prog_12_method_72_code
def yX10_laysChords : MethodName := ⟨RX10, "laysChords", "(II)V"⟩
abbrev cX10_lays : ByteArray := prog_12_method_73_code
def yX10_lays : MethodName := ⟨RX10, "lays", "(III)V"⟩
abbrev cX10_isBreak : ByteArray := prog_12_method_74_code
def yX10_isBreak : MethodName := ⟨RX10, "isBreak", "(II)Z"⟩
abbrev cX10_endOf : ByteArray := prog_12_method_75_code
def yX10_endOf : MethodName := ⟨RX10, "endOf", "(II)I"⟩
abbrev cX10_pairsOf : ByteArray := prog_12_method_76_code
def yX10_pairsOf : MethodName := ⟨RX10, "pairsOf", "(I)I"⟩
abbrev cX10_pairs : ByteArray := prog_12_method_77_code
def yX10_pairs : MethodName := ⟨RX10, "pairs", "(I)I"⟩
abbrev cX10_isRow : ByteArray := prog_12_method_78_code
def yX10_isRow : MethodName := ⟨RX10, "isRow", "(III)Z"⟩
abbrev cX10_laysPair : ByteArray := prog_12_method_79_code
def yX10_laysPair : MethodName := ⟨RX10, "laysPair", "(II)V"⟩
abbrev cX10_rowLength : ByteArray := prog_12_method_80_code
def yX10_rowLength : MethodName := ⟨RX10, "rowLength", "(III)I"⟩
abbrev cX10_rowChar : ByteArray := prog_12_method_81_code
def yX10_rowChar : MethodName := ⟨RX10, "rowChar", "(IIII)I"⟩
abbrev cX10_undo : ByteArray := prog_12_method_82_code
def yX10_undo : MethodName := ⟨RX10, "undo", "()I"⟩
abbrev cX10_fingerprint : ByteArray := prog_12_method_83_code
def yX10_fingerprint : MethodName := ⟨RX10, "fingerprint", "()J"⟩
def RJ11 : String := "java/lang/Character"
abbrev cJ11_isValidCodePoint_9a6ad : ByteArray := prog_13_method_11_code
def yJ11_isValidCodePoint_9a6ad : MethodName := ⟨RJ11, "isValidCodePoint", "(I)Z"⟩
abbrev cJ11_highSurrogate_5068e : ByteArray := prog_13_method_28_code
def yJ11_highSurrogate_5068e : MethodName := ⟨RJ11, "highSurrogate", "(I)C"⟩
abbrev cJ11_lowSurrogate_5068e : ByteArray := prog_13_method_29_code
def yJ11_lowSurrogate_5068e : MethodName := ⟨RJ11, "lowSurrogate", "(I)C"⟩
def RJx29ce0 : String := "java/lang/Enum"
def RJ6 : String := "java/lang/Integer"
abbrev cJ6_bitCount_0f7a4 : ByteArray := prog_19_method_49_code
def yJ6_bitCount_0f7a4 : MethodName := ⟨RJ6, "bitCount", "(I)I"⟩
def RJ9 : String := "java/lang/Math"
abbrev cJ9_floorDiv_7cf53 : ByteArray := prog_20_method_47_code
def yJ9_floorDiv_7cf53 : MethodName := ⟨RJ9, "floorDiv", "(II)I"⟩
abbrev cJ9_floorMod_7cf53 : ByteArray := prog_20_method_50_code
def yJ9_floorMod_7cf53 : MethodName := ⟨RJ9, "floorMod", "(II)I"⟩
abbrev cJ9_abs_0f7a4 : ByteArray := prog_20_method_59_code
def yJ9_abs_0f7a4 : MethodName := ⟨RJ9, "abs", "(I)I"⟩
abbrev cJ9_max_7cf53 : ByteArray := prog_20_method_65_code
def yJ9_max_7cf53 : MethodName := ⟨RJ9, "max", "(II)I"⟩
abbrev cJ9_min_7cf53 : ByteArray := prog_20_method_69_code
def yJ9_min_7cf53 : MethodName := ⟨RJ9, "min", "(II)I"⟩
def RJ0 : String := "java/lang/String"
abbrev cJ0_length_8abf5 : ByteArray := prog_22_method_54_code
def yJ0_length_8abf5 : MethodName := ⟨RJ0, "length", "()I"⟩
abbrev cJ0_charAt_5068e : ByteArray := prog_22_method_56_code
def yJ0_charAt_5068e : MethodName := ⟨RJ0, "charAt", "(I)C"⟩
abbrev cJ0_indexOf_0f7a4 : ByteArray := prog_22_method_79_code
def yJ0_indexOf_0f7a4 : MethodName := ⟨RJ0, "indexOf", "(I)I"⟩
abbrev cJ0_indexOf_7cf53 : ByteArray := prog_22_method_80_code
def yJ0_indexOf_7cf53 : MethodName := ⟨RJ0, "indexOf", "(II)I"⟩
abbrev cJ0_coder_7d493 : ByteArray := prog_22_method_152_code
def yJ0_coder_7d493 : MethodName := ⟨RJ0, "coder", "()B"⟩
abbrev cJ0_isLatin1_aae02 : ByteArray := prog_22_method_154_code
def yJ0_isLatin1_aae02 : MethodName := ⟨RJ0, "isLatin1", "()Z"⟩
abbrev cJ0_checkIndex_df160 : ByteArray := prog_22_method_155_code
def yJ0_checkIndex_df160 : MethodName := ⟨RJ0, "checkIndex", "(II)V"⟩
abbrev cJ0_checkBoundsBeginEnd_23922 : ByteArray := prog_22_method_158_code
def yJ0_checkBoundsBeginEnd_23922 : MethodName := ⟨RJ0, "checkBoundsBeginEnd", "(III)V"⟩
def RJ1 : String := "java/lang/StringLatin1"
abbrev cJ1_charAt_3b067 : ByteArray := prog_23_method_2_code
def yJ1_charAt_3b067 : MethodName := ⟨RJ1, "charAt", "([BI)C"⟩
abbrev cJ1_canEncode_9a6ad : ByteArray := prog_23_method_4_code
def yJ1_canEncode_9a6ad : MethodName := ⟨RJ1, "canEncode", "(I)Z"⟩
abbrev cJ1_indexOf_4cfef : ByteArray := prog_23_method_22_code
def yJ1_indexOf_4cfef : MethodName := ⟨RJ1, "indexOf", "([BIII)I"⟩
abbrev cJ1_indexOfChar_4cfef : ByteArray := prog_23_method_23_code
def yJ1_indexOfChar_4cfef : MethodName := ⟨RJ1, "indexOfChar", "([BIII)I"⟩
def RJ2 : String := "java/lang/StringUTF16"
abbrev cJ2_getChar_3b067 : ByteArray := prog_24_method_5_code
def yJ2_getChar_3b067 : MethodName := ⟨RJ2, "getChar", "([BI)C"⟩
abbrev cJ2_length_9d52b : ByteArray := prog_24_method_6_code
def yJ2_length_9d52b : MethodName := ⟨RJ2, "length", "([B)I"⟩
abbrev cJ2_indexOf_4cfef : ByteArray := prog_24_method_40_code
def yJ2_indexOf_4cfef : MethodName := ⟨RJ2, "indexOf", "([BIII)I"⟩
abbrev cJ2_indexOfChar_4cfef : ByteArray := prog_24_method_47_code
def yJ2_indexOfChar_4cfef : MethodName := ⟨RJ2, "indexOfChar", "([BIII)I"⟩
abbrev cJ2_indexOfCharUnsafe_4cfef : ByteArray := prog_24_method_48_code
def yJ2_indexOfCharUnsafe_4cfef : MethodName := ⟨RJ2, "indexOfCharUnsafe", "([BIII)I"⟩
abbrev cJ2_indexOfSupplementary_4cfef : ByteArray := prog_24_method_49_code
def yJ2_indexOfSupplementary_4cfef : MethodName := ⟨RJ2, "indexOfSupplementary", "([BIII)I"⟩
abbrev cJ2_charAt_3b067 : ByteArray := prog_24_method_83_code
def yJ2_charAt_3b067 : MethodName := ⟨RJ2, "charAt", "([BI)C"⟩
abbrev cJ2_checkIndex_2214a : ByteArray := prog_24_method_91_code
def yJ2_checkIndex_2214a : MethodName := ⟨RJ2, "checkIndex", "(I[B)V"⟩
abbrev cJ2_checkBoundsBeginEnd_d044e : ByteArray := prog_24_method_93_code
def yJ2_checkBoundsBeginEnd_d044e : MethodName := ⟨RJ2, "checkBoundsBeginEnd", "(II[B)V"⟩
def RJ10 : String := "java/lang/System"
def RJ3 : String := "jdk/internal/util/Preconditions"
abbrev cJ3_checkIndex_8e157 : ByteArray := prog_27_method_11_code
def yJ3_checkIndex_8e157 : MethodName := ⟨RJ3, "checkIndex", "(IILjava/util/function/BiFunction;)I"⟩
abbrev cJ3_checkFromToIndex_8c36e : ByteArray := prog_27_method_12_code
def yJ3_checkFromToIndex_8c36e : MethodName := ⟨RJ3, "checkFromToIndex", "(IIILjava/util/function/BiFunction;)I"⟩
def RL : String := "ChordSheetLaw"
abbrev cL_type : ByteArray := method_3_code
def yL_type : MethodName := ⟨RL, "type", "(LChordSheet;I[J)I"⟩
abbrev cL_setWidth : ByteArray := method_4_code
def yL_setWidth : MethodName := ⟨RL, "setWidth", "(LChordSheet;I[J)I"⟩
abbrev cL_lyrics : ByteArray := method_5_code
def yL_lyrics : MethodName := ⟨RL, "lyrics", "(LChordSheet;I[J)I"⟩
abbrev cL_lyric : ByteArray := method_6_code
def yL_lyric : MethodName := ⟨RL, "lyric", "(LChordSheet;II[J)I"⟩
abbrev cL_lineOf : ByteArray := method_7_code
def yL_lineOf : MethodName := ⟨RL, "lineOf", "(LChordSheet;I[J)I"⟩
abbrev cL_columnOf : ByteArray := method_8_code
def yL_columnOf : MethodName := ⟨RL, "columnOf", "(LChordSheet;I[J)I"⟩
abbrev cL_rootOf : ByteArray := method_9_code
def yL_rootOf : MethodName := ⟨RL, "rootOf", "(LChordSheet;I[J)I"⟩
abbrev cL_qualityOf : ByteArray := method_10_code
def yL_qualityOf : MethodName := ⟨RL, "qualityOf", "(LChordSheet;I[J)I"⟩
abbrev cL_bassOf : ByteArray := method_11_code
def yL_bassOf : MethodName := ⟨RL, "bassOf", "(LChordSheet;I[J)I"⟩
abbrev cL_nameChar : ByteArray := method_12_code
def yL_nameChar : MethodName := ⟨RL, "nameChar", "(LChordSheet;II[J)I"⟩
abbrev cL_setChord : ByteArray := method_13_code
def yL_setChord : MethodName := ⟨RL, "setChord", "(LChordSheet;I[J)I"⟩
abbrev cL_addChord : ByteArray := method_14_code
def yL_addChord : MethodName := ⟨RL, "addChord", "(LChordSheet;II[J)I"⟩
abbrev cL_removeChord : ByteArray := method_15_code
def yL_removeChord : MethodName := ⟨RL, "removeChord", "(LChordSheet;I[J)I"⟩
abbrev cL_moveChord : ByteArray := method_16_code
def yL_moveChord : MethodName := ⟨RL, "moveChord", "(LChordSheet;II[J)I"⟩
abbrev cL_commonTones : ByteArray := method_17_code
def yL_commonTones : MethodName := ⟨RL, "commonTones", "(LChordSheet;I[J)I"⟩
abbrev cL_degree : ByteArray := method_18_code
def yL_degree : MethodName := ⟨RL, "degree", "(LChordSheet;I[J)I"⟩
abbrev cL_setKey : ByteArray := method_19_code
def yL_setKey : MethodName := ⟨RL, "setKey", "(LChordSheet;IZ[J)I"⟩
abbrev cL_score : ByteArray := method_20_code
def yL_score : MethodName := ⟨RL, "score", "(LChordSheet;IZ[J)I"⟩
abbrev cL_transpose : ByteArray := method_21_code
def yL_transpose : MethodName := ⟨RL, "transpose", "(LChordSheet;I[J)I"⟩
abbrev cL_difficulty : ByteArray := method_22_code
def yL_difficulty : MethodName := ⟨RL, "difficulty", "(LChordSheet;I[J)I"⟩
abbrev cL_pairs : ByteArray := method_23_code
def yL_pairs : MethodName := ⟨RL, "pairs", "(LChordSheet;I[J)I"⟩
abbrev cL_rowLength : ByteArray := method_24_code
def yL_rowLength : MethodName := ⟨RL, "rowLength", "(LChordSheet;III[J)I"⟩
abbrev cL_rowChar : ByteArray := method_25_code
def yL_rowChar : MethodName := ⟨RL, "rowChar", "(LChordSheet;IIII[J)I"⟩
abbrev cL_undo : ByteArray := method_26_code
def yL_undo : MethodName := ⟨RL, "undo", "(LChordSheet;[J)I"⟩
abbrev cL_law : ByteArray := code
def yL_law : MethodName := ⟨RL, "law", "([I)Z"⟩
abbrev vwCl : List vw_C := [(RX1, TX1, 3), (RX3, TX3, 11), (RX6, TX6, 6), (RX7, TX7, 2), (RX8, TX8, 7), (RX9, TX9, 10), (RX10, TX10, 24)]
end
section
theorem dX0_difficultyAt_0 : decode cX0_difficultyAt 0 = .ok (.iload_n 1, 1) := by decide +kernel
theorem dX0_difficultyAt_1 : decode cX0_difficultyAt 1 = .ok (.istore_n 2, 1) := by decide +kernel
theorem dX0_difficultyAt_2 : decode cX0_difficultyAt 2 = .ok (.bipush 100, 2) := by decide +kernel
theorem dX0_difficultyAt_4 : decode cX0_difficultyAt 4 = .ok (.istore_n 3, 1) := by decide +kernel
theorem dX0_difficultyAt_5 : decode cX0_difficultyAt 5 = .ok (.iconst 0, 1) := by decide +kernel
theorem dX0_difficultyAt_6 : decode cX0_difficultyAt 6 = .ok (.istore 4, 2) := by decide +kernel
theorem dX0_difficultyAt_8 : decode cX0_difficultyAt 8 = .ok (.iload 4, 2) := by decide +kernel
theorem dX0_difficultyAt_10 : decode cX0_difficultyAt 10 = .ok (.aload_n 0, 1) := by decide +kernel
theorem dX0_difficultyAt_11 : decode cX0_difficultyAt 11 = .ok (.invokevirtual 9, 3) := by decide +kernel
theorem dX0_difficultyAt_14 : decode cX0_difficultyAt 14 = .ok (.if_icmp .ge 84, 3) := by decide +kernel
theorem dX0_difficultyAt_17 : decode cX0_difficultyAt 17 = .ok (.aload_n 0, 1) := by decide +kernel
theorem dX0_difficultyAt_18 : decode cX0_difficultyAt 18 = .ok (.iload 4, 2) := by decide +kernel
theorem dX0_difficultyAt_20 : decode cX0_difficultyAt 20 = .ok (.iconst 2, 1) := by decide +kernel
theorem dX0_difficultyAt_21 : decode cX0_difficultyAt 21 = .ok (.invokevirtual 15, 3) := by decide +kernel
theorem dX0_difficultyAt_24 : decode cX0_difficultyAt 24 = .ok (.iload_n 1, 1) := by decide +kernel
theorem dX0_difficultyAt_25 : decode cX0_difficultyAt 25 = .ok (.ineg, 1) := by decide +kernel
theorem dX0_difficultyAt_26 : decode cX0_difficultyAt 26 = .ok (.invokestatic 19, 3) := by decide +kernel
theorem dX0_difficultyAt_29 : decode cX0_difficultyAt 29 = .ok (.istore 5, 2) := by decide +kernel
theorem dX0_difficultyAt_31 : decode cX0_difficultyAt 31 = .ok (.aload_n 0, 1) := by decide +kernel
theorem dX0_difficultyAt_32 : decode cX0_difficultyAt 32 = .ok (.iload 4, 2) := by decide +kernel
theorem dX0_difficultyAt_34 : decode cX0_difficultyAt 34 = .ok (.iconst 3, 1) := by decide +kernel
theorem dX0_difficultyAt_35 : decode cX0_difficultyAt 35 = .ok (.invokevirtual 15, 3) := by decide +kernel
theorem dX0_difficultyAt_38 : decode cX0_difficultyAt 38 = .ok (.invokestatic 24, 3) := by decide +kernel
theorem dX0_difficultyAt_41 : decode cX0_difficultyAt 41 = .ok (.iload 5, 2) := by decide +kernel
theorem dX0_difficultyAt_43 : decode cX0_difficultyAt 43 = .ok (.invokevirtual 30, 3) := by decide +kernel
theorem dX0_difficultyAt_46 : decode cX0_difficultyAt 46 = .ok (.istore 6, 2) := by decide +kernel
theorem dX0_difficultyAt_48 : decode cX0_difficultyAt 48 = .ok (.iload_n 2, 1) := by decide +kernel
theorem dX0_difficultyAt_49 : decode cX0_difficultyAt 49 = .ok (.aload_n 0, 1) := by decide +kernel
theorem dX0_difficultyAt_50 : decode cX0_difficultyAt 50 = .ok (.iload 4, 2) := by decide +kernel
theorem dX0_difficultyAt_52 : decode cX0_difficultyAt 52 = .ok (.iload 6, 2) := by decide +kernel
theorem dX0_difficultyAt_54 : decode cX0_difficultyAt 54 = .ok (.invokestatic 34, 3) := by decide +kernel
theorem dX0_difficultyAt_57 : decode cX0_difficultyAt 57 = .ok (.iadd, 1) := by decide +kernel
theorem dX0_difficultyAt_58 : decode cX0_difficultyAt 58 = .ok (.istore_n 2, 1) := by decide +kernel
theorem dX0_difficultyAt_59 : decode cX0_difficultyAt 59 = .ok (.iload 6, 2) := by decide +kernel
theorem dX0_difficultyAt_61 : decode cX0_difficultyAt 61 = .ok (.ifCond .ne 18, 3) := by decide +kernel
theorem dX0_difficultyAt_64 : decode cX0_difficultyAt 64 = .ok (.iload_n 3, 1) := by decide +kernel
theorem dX0_difficultyAt_65 : decode cX0_difficultyAt 65 = .ok (.bipush 100, 2) := by decide +kernel
theorem dX0_difficultyAt_67 : decode cX0_difficultyAt 67 = .ok (.if_icmp .eq 12, 3) := by decide +kernel
theorem dX0_difficultyAt_70 : decode cX0_difficultyAt 70 = .ok (.iload_n 3, 1) := by decide +kernel
theorem dX0_difficultyAt_71 : decode cX0_difficultyAt 71 = .ok (.iload 5, 2) := by decide +kernel
theorem dX0_difficultyAt_73 : decode cX0_difficultyAt 73 = .ok (.if_icmp .eq 6, 3) := by decide +kernel
theorem dX0_difficultyAt_76 : decode cX0_difficultyAt 76 = .ok (.iinc 2 1, 3) := by decide +kernel
theorem dX0_difficultyAt_79 : decode cX0_difficultyAt 79 = .ok (.iload 6, 2) := by decide +kernel
theorem dX0_difficultyAt_81 : decode cX0_difficultyAt 81 = .ok (.ifCond .eq 8, 3) := by decide +kernel
theorem dX0_difficultyAt_84 : decode cX0_difficultyAt 84 = .ok (.bipush 100, 2) := by decide +kernel
theorem dX0_difficultyAt_86 : decode cX0_difficultyAt 86 = .ok (.goto 5, 3) := by decide +kernel
theorem dX0_difficultyAt_89 : decode cX0_difficultyAt 89 = .ok (.iload 5, 2) := by decide +kernel
theorem dX0_difficultyAt_91 : decode cX0_difficultyAt 91 = .ok (.istore_n 3, 1) := by decide +kernel
theorem dX0_difficultyAt_92 : decode cX0_difficultyAt 92 = .ok (.iinc 4 1, 3) := by decide +kernel
theorem dX0_difficultyAt_95 : decode cX0_difficultyAt 95 = .ok (.goto (-87), 3) := by decide +kernel
theorem dX0_difficultyAt_98 : decode cX0_difficultyAt 98 = .ok (.iload_n 2, 1) := by decide +kernel
theorem dX0_difficultyAt_99 : decode cX0_difficultyAt 99 = .ok (.ireturn, 1) := by decide +kernel
theorem dX0_easiestFret_0 : decode cX0_easiestFret 0 = .ok (.iconst 0, 1) := by decide +kernel
theorem dX0_easiestFret_1 : decode cX0_easiestFret 1 = .ok (.istore_n 1, 1) := by decide +kernel
theorem dX0_easiestFret_2 : decode cX0_easiestFret 2 = .ok (.aload_n 0, 1) := by decide +kernel
theorem dX0_easiestFret_3 : decode cX0_easiestFret 3 = .ok (.iconst 0, 1) := by decide +kernel
theorem dX0_easiestFret_4 : decode cX0_easiestFret 4 = .ok (.invokestatic 40, 3) := by decide +kernel
theorem dX0_easiestFret_7 : decode cX0_easiestFret 7 = .ok (.istore_n 2, 1) := by decide +kernel
theorem dX0_easiestFret_8 : decode cX0_easiestFret 8 = .ok (.iconst 1, 1) := by decide +kernel
theorem dX0_easiestFret_9 : decode cX0_easiestFret 9 = .ok (.istore_n 3, 1) := by decide +kernel
theorem dX0_easiestFret_10 : decode cX0_easiestFret 10 = .ok (.iload_n 3, 1) := by decide +kernel
theorem dX0_easiestFret_11 : decode cX0_easiestFret 11 = .ok (.bipush 7, 2) := by decide +kernel
theorem dX0_easiestFret_13 : decode cX0_easiestFret 13 = .ok (.if_icmp .gt 27, 3) := by decide +kernel
theorem dX0_easiestFret_16 : decode cX0_easiestFret 16 = .ok (.aload_n 0, 1) := by decide +kernel
theorem dX0_easiestFret_17 : decode cX0_easiestFret 17 = .ok (.iload_n 3, 1) := by decide +kernel
theorem dX0_easiestFret_18 : decode cX0_easiestFret 18 = .ok (.invokestatic 40, 3) := by decide +kernel
theorem dX0_easiestFret_21 : decode cX0_easiestFret 21 = .ok (.istore 4, 2) := by decide +kernel
theorem dX0_easiestFret_23 : decode cX0_easiestFret 23 = .ok (.iload 4, 2) := by decide +kernel
theorem dX0_easiestFret_25 : decode cX0_easiestFret 25 = .ok (.iload_n 2, 1) := by decide +kernel
theorem dX0_easiestFret_26 : decode cX0_easiestFret 26 = .ok (.if_icmp .ge 8, 3) := by decide +kernel
theorem dX0_easiestFret_29 : decode cX0_easiestFret 29 = .ok (.iload_n 3, 1) := by decide +kernel
theorem dX0_easiestFret_30 : decode cX0_easiestFret 30 = .ok (.istore_n 1, 1) := by decide +kernel
theorem dX0_easiestFret_31 : decode cX0_easiestFret 31 = .ok (.iload 4, 2) := by decide +kernel
theorem dX0_easiestFret_33 : decode cX0_easiestFret 33 = .ok (.istore_n 2, 1) := by decide +kernel
theorem dX0_easiestFret_34 : decode cX0_easiestFret 34 = .ok (.iinc 3 1, 3) := by decide +kernel
theorem dX0_easiestFret_37 : decode cX0_easiestFret 37 = .ok (.goto (-27), 3) := by decide +kernel
theorem dX0_easiestFret_40 : decode cX0_easiestFret 40 = .ok (.iload_n 1, 1) := by decide +kernel
theorem dX0_easiestFret_41 : decode cX0_easiestFret 41 = .ok (.ireturn, 1) := by decide +kernel
theorem dX0_shapeDifficulty_0 : decode cX0_shapeDifficulty 0 = .ok (.iload_n 2, 1) := by decide +kernel
theorem dX0_shapeDifficulty_1 : decode cX0_shapeDifficulty 1 = .ok (.ifCond .eq 7, 3) := by decide +kernel
theorem dX0_shapeDifficulty_4 : decode cX0_shapeDifficulty 4 = .ok (.iconst 1, 1) := by decide +kernel
theorem dX0_shapeDifficulty_5 : decode cX0_shapeDifficulty 5 = .ok (.goto 4, 3) := by decide +kernel
theorem dX0_shapeDifficulty_8 : decode cX0_shapeDifficulty 8 = .ok (.iconst 4, 1) := by decide +kernel
theorem dX0_shapeDifficulty_9 : decode cX0_shapeDifficulty 9 = .ok (.istore_n 3, 1) := by decide +kernel
theorem dX0_shapeDifficulty_10 : decode cX0_shapeDifficulty 10 = .ok (.aload_n 0, 1) := by decide +kernel
theorem dX0_shapeDifficulty_11 : decode cX0_shapeDifficulty 11 = .ok (.iload_n 1, 1) := by decide +kernel
theorem dX0_shapeDifficulty_12 : decode cX0_shapeDifficulty 12 = .ok (.iconst 3, 1) := by decide +kernel
theorem dX0_shapeDifficulty_13 : decode cX0_shapeDifficulty 13 = .ok (.invokevirtual 15, 3) := by decide +kernel
theorem dX0_shapeDifficulty_16 : decode cX0_shapeDifficulty 16 = .ok (.iconst 3, 1) := by decide +kernel
theorem dX0_shapeDifficulty_17 : decode cX0_shapeDifficulty 17 = .ok (.if_icmp .le 6, 3) := by decide +kernel
theorem dX0_shapeDifficulty_20 : decode cX0_shapeDifficulty 20 = .ok (.iinc 3 1, 3) := by decide +kernel
theorem dX0_shapeDifficulty_23 : decode cX0_shapeDifficulty 23 = .ok (.aload_n 0, 1) := by decide +kernel
theorem dX0_shapeDifficulty_24 : decode cX0_shapeDifficulty 24 = .ok (.iload_n 1, 1) := by decide +kernel
theorem dX0_shapeDifficulty_25 : decode cX0_shapeDifficulty 25 = .ok (.iconst 4, 1) := by decide +kernel
theorem dX0_shapeDifficulty_26 : decode cX0_shapeDifficulty 26 = .ok (.invokevirtual 15, 3) := by decide +kernel
theorem dX0_shapeDifficulty_29 : decode cX0_shapeDifficulty 29 = .ok (.istore 4, 2) := by decide +kernel
theorem dX0_shapeDifficulty_31 : decode cX0_shapeDifficulty 31 = .ok (.aload_n 0, 1) := by decide +kernel
theorem dX0_shapeDifficulty_32 : decode cX0_shapeDifficulty 32 = .ok (.iload_n 1, 1) := by decide +kernel
theorem dX0_shapeDifficulty_33 : decode cX0_shapeDifficulty 33 = .ok (.iconst 2, 1) := by decide +kernel
theorem dX0_shapeDifficulty_34 : decode cX0_shapeDifficulty 34 = .ok (.invokevirtual 15, 3) := by decide +kernel
theorem dX0_shapeDifficulty_37 : decode cX0_shapeDifficulty 37 = .ok (.istore 5, 2) := by decide +kernel
theorem dX0_shapeDifficulty_39 : decode cX0_shapeDifficulty 39 = .ok (.iload 4, 2) := by decide +kernel
theorem dX0_shapeDifficulty_41 : decode cX0_shapeDifficulty 41 = .ok (.bipush 100, 2) := by decide +kernel
theorem dX0_shapeDifficulty_43 : decode cX0_shapeDifficulty 43 = .ok (.if_icmp .eq 19, 3) := by decide +kernel
theorem dX0_shapeDifficulty_46 : decode cX0_shapeDifficulty 46 = .ok (.iload 4, 2) := by decide +kernel
theorem dX0_shapeDifficulty_48 : decode cX0_shapeDifficulty 48 = .ok (.invokestatic 44, 3) := by decide +kernel
theorem dX0_shapeDifficulty_51 : decode cX0_shapeDifficulty 51 = .ok (.iload 5, 2) := by decide +kernel
theorem dX0_shapeDifficulty_53 : decode cX0_shapeDifficulty 53 = .ok (.invokestatic 44, 3) := by decide +kernel
theorem dX0_shapeDifficulty_56 : decode cX0_shapeDifficulty 56 = .ok (.if_icmp .eq 6, 3) := by decide +kernel
theorem dX0_shapeDifficulty_59 : decode cX0_shapeDifficulty 59 = .ok (.iinc 3 1, 3) := by decide +kernel
theorem dX0_shapeDifficulty_62 : decode cX0_shapeDifficulty 62 = .ok (.iload_n 3, 1) := by decide +kernel
theorem dX0_shapeDifficulty_63 : decode cX0_shapeDifficulty 63 = .ok (.ireturn, 1) := by decide +kernel
theorem dX1_init_0 : decode cX1_init 0 = .ok (.aload_n 0, 1) := by decide +kernel
theorem dX1_init_1 : decode cX1_init 1 = .ok (.invokespecial 3, 3) := by decide +kernel
theorem dX1_init_4 : decode cX1_init 4 = .ok (.aload_n 0, 1) := by decide +kernel
theorem dX1_init_5 : decode cX1_init 5 = .ok (.bipush 8, 2) := by decide +kernel
theorem dX1_init_7 : decode cX1_init 7 = .ok (.anewarray 9, 3) := by decide +kernel
theorem dX1_init_10 : decode cX1_init 10 = .ok (.putfield 11, 3) := by decide +kernel
theorem dX1_init_13 : decode cX1_init 13 = .ok (.iconst 0, 1) := by decide +kernel
theorem dX1_init_14 : decode cX1_init 14 = .ok (.istore_n 1, 1) := by decide +kernel
theorem dX1_init_15 : decode cX1_init 15 = .ok (.iload_n 1, 1) := by decide +kernel
theorem dX1_init_16 : decode cX1_init 16 = .ok (.aload_n 0, 1) := by decide +kernel
theorem dX1_init_17 : decode cX1_init 17 = .ok (.getfield 11, 3) := by decide +kernel
theorem dX1_init_20 : decode cX1_init 20 = .ok (.arraylength, 1) := by decide +kernel
theorem dX1_init_21 : decode cX1_init 21 = .ok (.if_icmp .ge 22, 3) := by decide +kernel
theorem dX1_init_24 : decode cX1_init 24 = .ok (.aload_n 0, 1) := by decide +kernel
theorem dX1_init_25 : decode cX1_init 25 = .ok (.getfield 11, 3) := by decide +kernel
theorem dX1_init_28 : decode cX1_init 28 = .ok (.iload_n 1, 1) := by decide +kernel
theorem dX1_init_29 : decode cX1_init 29 = .ok (.new 9, 3) := by decide +kernel
theorem dX1_init_32 : decode cX1_init 32 = .ok (.dup, 1) := by decide +kernel
theorem dX1_init_33 : decode cX1_init 33 = .ok (.invokespecial 17, 3) := by decide +kernel
theorem dX1_init_36 : decode cX1_init 36 = .ok (.aastore, 1) := by decide +kernel
theorem dX1_init_37 : decode cX1_init 37 = .ok (.iinc 1 1, 3) := by decide +kernel
theorem dX1_init_40 : decode cX1_init 40 = .ok (.goto (-25), 3) := by decide +kernel
theorem dX1_init_43 : decode cX1_init 43 = .ok (.return_, 1) := by decide +kernel
theorem dX1_isEmpty_0 : decode cX1_isEmpty 0 = .ok (.aload_n 0, 1) := by decide +kernel
theorem dX1_isEmpty_1 : decode cX1_isEmpty 1 = .ok (.getfield 18, 3) := by decide +kernel
theorem dX1_isEmpty_4 : decode cX1_isEmpty 4 = .ok (.ifCond .ne 7, 3) := by decide +kernel
theorem dX1_isEmpty_7 : decode cX1_isEmpty 7 = .ok (.iconst 1, 1) := by decide +kernel
theorem dX1_isEmpty_8 : decode cX1_isEmpty 8 = .ok (.goto 4, 3) := by decide +kernel
theorem dX1_isEmpty_11 : decode cX1_isEmpty 11 = .ok (.iconst 0, 1) := by decide +kernel
theorem dX1_isEmpty_12 : decode cX1_isEmpty 12 = .ok (.ireturn, 1) := by decide +kernel
theorem dX1_keep_0 : decode cX1_keep 0 = .ok (.aload_n 0, 1) := by decide +kernel
theorem dX1_keep_1 : decode cX1_keep 1 = .ok (.aload_n 0, 1) := by decide +kernel
theorem dX1_keep_2 : decode cX1_keep 2 = .ok (.getfield 18, 3) := by decide +kernel
theorem dX1_keep_5 : decode cX1_keep 5 = .ok (.invokevirtual 22, 3) := by decide +kernel
theorem dX1_keep_8 : decode cX1_keep 8 = .ok (.astore_n 2, 1) := by decide +kernel
theorem dX1_keep_9 : decode cX1_keep 9 = .ok (.aload_n 2, 1) := by decide +kernel
theorem dX1_keep_10 : decode cX1_keep 10 = .ok (.ifnull 8, 3) := by decide +kernel
theorem dX1_keep_13 : decode cX1_keep 13 = .ok (.aload_n 2, 1) := by decide +kernel
theorem dX1_keep_14 : decode cX1_keep 14 = .ok (.aload_n 1, 1) := by decide +kernel
theorem dX1_keep_15 : decode cX1_keep 15 = .ok (.invokevirtual 26, 3) := by decide +kernel
theorem dX1_keep_18 : decode cX1_keep 18 = .ok (.aload_n 0, 1) := by decide +kernel
theorem dX1_keep_19 : decode cX1_keep 19 = .ok (.getfield 18, 3) := by decide +kernel
theorem dX1_keep_22 : decode cX1_keep 22 = .ok (.bipush 8, 2) := by decide +kernel
theorem dX1_keep_24 : decode cX1_keep 24 = .ok (.if_icmp .ge 16, 3) := by decide +kernel
theorem dX1_keep_27 : decode cX1_keep 27 = .ok (.aload_n 0, 1) := by decide +kernel
theorem dX1_keep_28 : decode cX1_keep 28 = .ok (.dup, 1) := by decide +kernel
theorem dX1_keep_29 : decode cX1_keep 29 = .ok (.getfield 18, 3) := by decide +kernel
theorem dX1_keep_32 : decode cX1_keep 32 = .ok (.iconst 1, 1) := by decide +kernel
theorem dX1_keep_33 : decode cX1_keep 33 = .ok (.iadd, 1) := by decide +kernel
theorem dX1_keep_34 : decode cX1_keep 34 = .ok (.putfield 18, 3) := by decide +kernel
theorem dX1_keep_37 : decode cX1_keep 37 = .ok (.goto 18, 3) := by decide +kernel
theorem dX1_keep_40 : decode cX1_keep 40 = .ok (.aload_n 0, 1) := by decide +kernel
theorem dX1_keep_41 : decode cX1_keep 41 = .ok (.aload_n 0, 1) := by decide +kernel
theorem dX1_keep_42 : decode cX1_keep 42 = .ok (.getfield 30, 3) := by decide +kernel
theorem dX1_keep_45 : decode cX1_keep 45 = .ok (.iconst 1, 1) := by decide +kernel
theorem dX1_keep_46 : decode cX1_keep 46 = .ok (.iadd, 1) := by decide +kernel
theorem dX1_keep_47 : decode cX1_keep 47 = .ok (.bipush 8, 2) := by decide +kernel
theorem dX1_keep_49 : decode cX1_keep 49 = .ok (.invokestatic 33, 3) := by decide +kernel
theorem dX1_keep_52 : decode cX1_keep 52 = .ok (.putfield 30, 3) := by decide +kernel
theorem dX1_keep_55 : decode cX1_keep 55 = .ok (.return_, 1) := by decide +kernel
theorem dX1_restore_0 : decode cX1_restore 0 = .ok (.aload_n 0, 1) := by decide +kernel
theorem dX1_restore_1 : decode cX1_restore 1 = .ok (.aload_n 0, 1) := by decide +kernel
theorem dX1_restore_2 : decode cX1_restore 2 = .ok (.getfield 18, 3) := by decide +kernel
theorem dX1_restore_5 : decode cX1_restore 5 = .ok (.iconst 1, 1) := by decide +kernel
theorem dX1_restore_6 : decode cX1_restore 6 = .ok (.isub, 1) := by decide +kernel
theorem dX1_restore_7 : decode cX1_restore 7 = .ok (.invokevirtual 22, 3) := by decide +kernel
theorem dX1_restore_10 : decode cX1_restore 10 = .ok (.astore_n 2, 1) := by decide +kernel
theorem dX1_restore_11 : decode cX1_restore 11 = .ok (.aload_n 0, 1) := by decide +kernel
theorem dX1_restore_12 : decode cX1_restore 12 = .ok (.getfield 18, 3) := by decide +kernel
theorem dX1_restore_15 : decode cX1_restore 15 = .ok (.ifCond .le 22, 3) := by decide +kernel
theorem dX1_restore_18 : decode cX1_restore 18 = .ok (.aload_n 2, 1) := by decide +kernel
theorem dX1_restore_19 : decode cX1_restore 19 = .ok (.ifnull 18, 3) := by decide +kernel
theorem dX1_restore_22 : decode cX1_restore 22 = .ok (.aload_n 1, 1) := by decide +kernel
theorem dX1_restore_23 : decode cX1_restore 23 = .ok (.aload_n 2, 1) := by decide +kernel
theorem dX1_restore_24 : decode cX1_restore 24 = .ok (.invokevirtual 26, 3) := by decide +kernel
theorem dX1_restore_27 : decode cX1_restore 27 = .ok (.aload_n 0, 1) := by decide +kernel
theorem dX1_restore_28 : decode cX1_restore 28 = .ok (.dup, 1) := by decide +kernel
theorem dX1_restore_29 : decode cX1_restore 29 = .ok (.getfield 18, 3) := by decide +kernel
theorem dX1_restore_32 : decode cX1_restore 32 = .ok (.iconst 1, 1) := by decide +kernel
theorem dX1_restore_33 : decode cX1_restore 33 = .ok (.isub, 1) := by decide +kernel
theorem dX1_restore_34 : decode cX1_restore 34 = .ok (.putfield 18, 3) := by decide +kernel
theorem dX1_restore_37 : decode cX1_restore 37 = .ok (.aload_n 0, 1) := by decide +kernel
theorem dX1_restore_38 : decode cX1_restore 38 = .ok (.getfield 18, 3) := by decide +kernel
theorem dX1_restore_41 : decode cX1_restore 41 = .ok (.ireturn, 1) := by decide +kernel
theorem dX1_stateAt_0 : decode cX1_stateAt 0 = .ok (.aload_n 0, 1) := by decide +kernel
theorem dX1_stateAt_1 : decode cX1_stateAt 1 = .ok (.getfield 30, 3) := by decide +kernel
theorem dX1_stateAt_4 : decode cX1_stateAt 4 = .ok (.iload_n 1, 1) := by decide +kernel
theorem dX1_stateAt_5 : decode cX1_stateAt 5 = .ok (.iadd, 1) := by decide +kernel
theorem dX1_stateAt_6 : decode cX1_stateAt 6 = .ok (.bipush 8, 2) := by decide +kernel
theorem dX1_stateAt_8 : decode cX1_stateAt 8 = .ok (.invokestatic 33, 3) := by decide +kernel
theorem dX1_stateAt_11 : decode cX1_stateAt 11 = .ok (.istore_n 2, 1) := by decide +kernel
theorem dX1_stateAt_12 : decode cX1_stateAt 12 = .ok (.iload_n 2, 1) := by decide +kernel
theorem dX1_stateAt_13 : decode cX1_stateAt 13 = .ok (.aload_n 0, 1) := by decide +kernel
theorem dX1_stateAt_14 : decode cX1_stateAt 14 = .ok (.getfield 11, 3) := by decide +kernel
theorem dX1_stateAt_17 : decode cX1_stateAt 17 = .ok (.arraylength, 1) := by decide +kernel
theorem dX1_stateAt_18 : decode cX1_stateAt 18 = .ok (.if_icmp .ge 12, 3) := by decide +kernel
theorem dX1_stateAt_21 : decode cX1_stateAt 21 = .ok (.aload_n 0, 1) := by decide +kernel
theorem dX1_stateAt_22 : decode cX1_stateAt 22 = .ok (.getfield 11, 3) := by decide +kernel
theorem dX1_stateAt_25 : decode cX1_stateAt 25 = .ok (.iload_n 2, 1) := by decide +kernel
theorem dX1_stateAt_26 : decode cX1_stateAt 26 = .ok (.aaload, 1) := by decide +kernel
theorem dX1_stateAt_27 : decode cX1_stateAt 27 = .ok (.goto 4, 3) := by decide +kernel
theorem dX1_stateAt_30 : decode cX1_stateAt 30 = .ok (.aconst_null, 1) := by decide +kernel
theorem dX1_stateAt_31 : decode cX1_stateAt 31 = .ok (.areturn, 1) := by decide +kernel
theorem dX2_signatureOf_0 : decode cX2_signatureOf 0 = .ok (.iload_n 1, 1) := by decide +kernel
theorem dX2_signatureOf_1 : decode cX2_signatureOf 1 = .ok (.ifCond .eq 9, 3) := by decide +kernel
theorem dX2_signatureOf_4 : decode cX2_signatureOf 4 = .ok (.iload_n 0, 1) := by decide +kernel
theorem dX2_signatureOf_5 : decode cX2_signatureOf 5 = .ok (.iconst 3, 1) := by decide +kernel
theorem dX2_signatureOf_6 : decode cX2_signatureOf 6 = .ok (.isub, 1) := by decide +kernel
theorem dX2_signatureOf_7 : decode cX2_signatureOf 7 = .ok (.goto 4, 3) := by decide +kernel
theorem dX2_signatureOf_10 : decode cX2_signatureOf 10 = .ok (.iload_n 0, 1) := by decide +kernel
theorem dX2_signatureOf_11 : decode cX2_signatureOf 11 = .ok (.ireturn, 1) := by decide +kernel
theorem dX2_tonicOf_0 : decode cX2_tonicOf 0 = .ok (.iload_n 1, 1) := by decide +kernel
theorem dX2_tonicOf_1 : decode cX2_tonicOf 1 = .ok (.ifCond .eq 9, 3) := by decide +kernel
theorem dX2_tonicOf_4 : decode cX2_tonicOf 4 = .ok (.iload_n 0, 1) := by decide +kernel
theorem dX2_tonicOf_5 : decode cX2_tonicOf 5 = .ok (.iconst 3, 1) := by decide +kernel
theorem dX2_tonicOf_6 : decode cX2_tonicOf 6 = .ok (.iadd, 1) := by decide +kernel
theorem dX2_tonicOf_7 : decode cX2_tonicOf 7 = .ok (.goto 4, 3) := by decide +kernel
theorem dX2_tonicOf_10 : decode cX2_tonicOf 10 = .ok (.iload_n 0, 1) := by decide +kernel
theorem dX2_tonicOf_11 : decode cX2_tonicOf 11 = .ok (.ireturn, 1) := by decide +kernel
theorem dX2_simplestSignature_0 : decode cX2_simplestSignature 0 = .ok (.bipush (-5), 2) := by decide +kernel
theorem dX2_simplestSignature_2 : decode cX2_simplestSignature 2 = .ok (.iload_n 1, 1) := by decide +kernel
theorem dX2_simplestSignature_3 : decode cX2_simplestSignature 3 = .ok (.invokestatic 11, 3) := by decide +kernel
theorem dX2_simplestSignature_6 : decode cX2_simplestSignature 6 = .ok (.istore_n 3, 1) := by decide +kernel
theorem dX2_simplestSignature_7 : decode cX2_simplestSignature 7 = .ok (.iload_n 3, 1) := by decide +kernel
theorem dX2_simplestSignature_8 : decode cX2_simplestSignature 8 = .ok (.iload_n 0, 1) := by decide +kernel
theorem dX2_simplestSignature_9 : decode cX2_simplestSignature 9 = .ok (.invokestatic 15, 3) := by decide +kernel
theorem dX2_simplestSignature_12 : decode cX2_simplestSignature 12 = .ok (.iload_n 1, 1) := by decide +kernel
theorem dX2_simplestSignature_13 : decode cX2_simplestSignature 13 = .ok (.invokestatic 21, 3) := by decide +kernel
theorem dX2_simplestSignature_16 : decode cX2_simplestSignature 16 = .ok (.istore 4, 2) := by decide +kernel
theorem dX2_simplestSignature_18 : decode cX2_simplestSignature 18 = .ok (.iload_n 2, 1) := by decide +kernel
theorem dX2_simplestSignature_19 : decode cX2_simplestSignature 19 = .ok (.ifCond .eq 15, 3) := by decide +kernel
theorem dX2_simplestSignature_22 : decode cX2_simplestSignature 22 = .ok (.iload 4, 2) := by decide +kernel
theorem dX2_simplestSignature_24 : decode cX2_simplestSignature 24 = .ok (.bipush 6, 2) := by decide +kernel
theorem dX2_simplestSignature_26 : decode cX2_simplestSignature 26 = .ok (.if_icmp .ne 8, 3) := by decide +kernel
theorem dX2_simplestSignature_29 : decode cX2_simplestSignature 29 = .ok (.bipush (-6), 2) := by decide +kernel
theorem dX2_simplestSignature_31 : decode cX2_simplestSignature 31 = .ok (.goto 5, 3) := by decide +kernel
theorem dX2_simplestSignature_34 : decode cX2_simplestSignature 34 = .ok (.iload 4, 2) := by decide +kernel
theorem dX2_simplestSignature_36 : decode cX2_simplestSignature 36 = .ok (.ireturn, 1) := by decide +kernel
theorem dX2_degreeOf_0 : decode cX2_degreeOf 0 = .ok (.iload_n 0, 1) := by decide +kernel
theorem dX2_degreeOf_1 : decode cX2_degreeOf 1 = .ok (.iload_n 1, 1) := by decide +kernel
theorem dX2_degreeOf_2 : decode cX2_degreeOf 2 = .ok (.invokestatic 24, 3) := by decide +kernel
theorem dX2_degreeOf_5 : decode cX2_degreeOf 5 = .ok (.ifCond .ne 5, 3) := by decide +kernel
theorem dX2_degreeOf_8 : decode cX2_degreeOf 8 = .ok (.iconst 0, 1) := by decide +kernel
theorem dX2_degreeOf_9 : decode cX2_degreeOf 9 = .ok (.ireturn, 1) := by decide +kernel
theorem dX2_degreeOf_10 : decode cX2_degreeOf 10 = .ok (.iload_n 1, 1) := by decide +kernel
theorem dX2_degreeOf_11 : decode cX2_degreeOf 11 = .ok (.iload_n 2, 1) := by decide +kernel
theorem dX2_degreeOf_12 : decode cX2_degreeOf 12 = .ok (.invokestatic 11, 3) := by decide +kernel
theorem dX2_degreeOf_15 : decode cX2_degreeOf 15 = .ok (.istore_n 3, 1) := by decide +kernel
theorem dX2_degreeOf_16 : decode cX2_degreeOf 16 = .ok (.iload_n 0, 1) := by decide +kernel
theorem dX2_degreeOf_17 : decode cX2_degreeOf 17 = .ok (.iload_n 3, 1) := by decide +kernel
theorem dX2_degreeOf_18 : decode cX2_degreeOf 18 = .ok (.invokestatic 28, 3) := by decide +kernel
theorem dX2_degreeOf_21 : decode cX2_degreeOf 21 = .ok (.isub, 1) := by decide +kernel
theorem dX2_degreeOf_22 : decode cX2_degreeOf 22 = .ok (.bipush 12, 2) := by decide +kernel
theorem dX2_degreeOf_24 : decode cX2_degreeOf 24 = .ok (.invokestatic 32, 3) := by decide +kernel
theorem dX2_degreeOf_27 : decode cX2_degreeOf 27 = .ok (.istore 4, 2) := by decide +kernel
theorem dX2_degreeOf_29 : decode cX2_degreeOf 29 = .ok (.iconst 0, 1) := by decide +kernel
theorem dX2_degreeOf_30 : decode cX2_degreeOf 30 = .ok (.istore 5, 2) := by decide +kernel
theorem dX2_degreeOf_32 : decode cX2_degreeOf 32 = .ok (.iconst 0, 1) := by decide +kernel
theorem dX2_degreeOf_33 : decode cX2_degreeOf 33 = .ok (.istore 6, 2) := by decide +kernel
theorem dX2_degreeOf_35 : decode cX2_degreeOf 35 = .ok (.iload 6, 2) := by decide +kernel
theorem dX2_degreeOf_37 : decode cX2_degreeOf 37 = .ok (.iload 4, 2) := by decide +kernel
theorem dX2_degreeOf_39 : decode cX2_degreeOf 39 = .ok (.if_icmp .gt 25, 3) := by decide +kernel
theorem dX2_degreeOf_42 : decode cX2_degreeOf 42 = .ok (.iload_n 3, 1) := by decide +kernel
theorem dX2_degreeOf_43 : decode cX2_degreeOf 43 = .ok (.iload 6, 2) := by decide +kernel
theorem dX2_degreeOf_45 : decode cX2_degreeOf 45 = .ok (.invokestatic 37, 3) := by decide +kernel
theorem dX2_degreeOf_48 : decode cX2_degreeOf 48 = .ok (.iload_n 1, 1) := by decide +kernel
theorem dX2_degreeOf_49 : decode cX2_degreeOf 49 = .ok (.invokestatic 24, 3) := by decide +kernel
theorem dX2_degreeOf_52 : decode cX2_degreeOf 52 = .ok (.ifCond .eq 6, 3) := by decide +kernel
theorem dX2_degreeOf_55 : decode cX2_degreeOf 55 = .ok (.iinc 5 1, 3) := by decide +kernel
theorem dX2_degreeOf_58 : decode cX2_degreeOf 58 = .ok (.iinc 6 1, 3) := by decide +kernel
theorem dX2_degreeOf_61 : decode cX2_degreeOf 61 = .ok (.goto (-26), 3) := by decide +kernel
theorem dX2_degreeOf_64 : decode cX2_degreeOf 64 = .ok (.iload 5, 2) := by decide +kernel
theorem dX2_degreeOf_66 : decode cX2_degreeOf 66 = .ok (.ireturn, 1) := by decide +kernel
theorem dX2_scoreOf_0 : decode cX2_scoreOf 0 = .ok (.iload_n 1, 1) := by decide +kernel
theorem dX2_scoreOf_1 : decode cX2_scoreOf 1 = .ok (.iload_n 2, 1) := by decide +kernel
theorem dX2_scoreOf_2 : decode cX2_scoreOf 2 = .ok (.invokestatic 11, 3) := by decide +kernel
theorem dX2_scoreOf_5 : decode cX2_scoreOf 5 = .ok (.invokestatic 28, 3) := by decide +kernel
theorem dX2_scoreOf_8 : decode cX2_scoreOf 8 = .ok (.istore_n 3, 1) := by decide +kernel
theorem dX2_scoreOf_9 : decode cX2_scoreOf 9 = .ok (.aload_n 0, 1) := by decide +kernel
theorem dX2_scoreOf_10 : decode cX2_scoreOf 10 = .ok (.invokevirtual 40, 3) := by decide +kernel
theorem dX2_scoreOf_13 : decode cX2_scoreOf 13 = .ok (.iconst 1, 1) := by decide +kernel
theorem dX2_scoreOf_14 : decode cX2_scoreOf 14 = .ok (.isub, 1) := by decide +kernel
theorem dX2_scoreOf_15 : decode cX2_scoreOf 15 = .ok (.istore 4, 2) := by decide +kernel
theorem dX2_scoreOf_17 : decode cX2_scoreOf 17 = .ok (.iconst 0, 1) := by decide +kernel
theorem dX2_scoreOf_18 : decode cX2_scoreOf 18 = .ok (.istore 5, 2) := by decide +kernel
theorem dX2_scoreOf_20 : decode cX2_scoreOf 20 = .ok (.iconst 0, 1) := by decide +kernel
theorem dX2_scoreOf_21 : decode cX2_scoreOf 21 = .ok (.istore 6, 2) := by decide +kernel
theorem dX2_scoreOf_23 : decode cX2_scoreOf 23 = .ok (.iload 6, 2) := by decide +kernel
theorem dX2_scoreOf_25 : decode cX2_scoreOf 25 = .ok (.iload 4, 2) := by decide +kernel
theorem dX2_scoreOf_27 : decode cX2_scoreOf 27 = .ok (.if_icmp .gt 93, 3) := by decide +kernel
theorem dX2_scoreOf_30 : decode cX2_scoreOf 30 = .ok (.aload_n 0, 1) := by decide +kernel
theorem dX2_scoreOf_31 : decode cX2_scoreOf 31 = .ok (.iload 6, 2) := by decide +kernel
theorem dX2_scoreOf_33 : decode cX2_scoreOf 33 = .ok (.iconst 2, 1) := by decide +kernel
theorem dX2_scoreOf_34 : decode cX2_scoreOf 34 = .ok (.invokevirtual 46, 3) := by decide +kernel
theorem dX2_scoreOf_37 : decode cX2_scoreOf 37 = .ok (.invokestatic 28, 3) := by decide +kernel
theorem dX2_scoreOf_40 : decode cX2_scoreOf 40 = .ok (.istore 7, 2) := by decide +kernel
theorem dX2_scoreOf_42 : decode cX2_scoreOf 42 = .ok (.iload 7, 2) := by decide +kernel
theorem dX2_scoreOf_44 : decode cX2_scoreOf 44 = .ok (.iload_n 1, 1) := by decide +kernel
theorem dX2_scoreOf_45 : decode cX2_scoreOf 45 = .ok (.invokestatic 24, 3) := by decide +kernel
theorem dX2_scoreOf_48 : decode cX2_scoreOf 48 = .ok (.ifCond .eq 6, 3) := by decide +kernel
theorem dX2_scoreOf_51 : decode cX2_scoreOf 51 = .ok (.iinc 5 2, 3) := by decide +kernel
theorem dX2_scoreOf_54 : decode cX2_scoreOf 54 = .ok (.iload 7, 2) := by decide +kernel
theorem dX2_scoreOf_56 : decode cX2_scoreOf 56 = .ok (.iload_n 3, 1) := by decide +kernel
theorem dX2_scoreOf_57 : decode cX2_scoreOf 57 = .ok (.if_icmp .ne 57, 3) := by decide +kernel
theorem dX2_scoreOf_60 : decode cX2_scoreOf 60 = .ok (.aload_n 0, 1) := by decide +kernel
theorem dX2_scoreOf_61 : decode cX2_scoreOf 61 = .ok (.iload 6, 2) := by decide +kernel
theorem dX2_scoreOf_63 : decode cX2_scoreOf 63 = .ok (.iconst 3, 1) := by decide +kernel
theorem dX2_scoreOf_64 : decode cX2_scoreOf 64 = .ok (.invokevirtual 46, 3) := by decide +kernel
theorem dX2_scoreOf_67 : decode cX2_scoreOf 67 = .ok (.invokestatic 49, 3) := by decide +kernel
theorem dX2_scoreOf_70 : decode cX2_scoreOf 70 = .ok (.getfield 55, 3) := by decide +kernel
theorem dX2_scoreOf_73 : decode cX2_scoreOf 73 = .ok (.iload_n 2, 1) := by decide +kernel
theorem dX2_scoreOf_74 : decode cX2_scoreOf 74 = .ok (.if_icmp .ne 7, 3) := by decide +kernel
theorem dX2_scoreOf_77 : decode cX2_scoreOf 77 = .ok (.iconst 1, 1) := by decide +kernel
theorem dX2_scoreOf_78 : decode cX2_scoreOf 78 = .ok (.goto 4, 3) := by decide +kernel
theorem dX2_scoreOf_81 : decode cX2_scoreOf 81 = .ok (.iconst 0, 1) := by decide +kernel
theorem dX2_scoreOf_82 : decode cX2_scoreOf 82 = .ok (.istore 8, 2) := by decide +kernel
theorem dX2_scoreOf_84 : decode cX2_scoreOf 84 = .ok (.iload 5, 2) := by decide +kernel
theorem dX2_scoreOf_86 : decode cX2_scoreOf 86 = .ok (.iconst 1, 1) := by decide +kernel
theorem dX2_scoreOf_87 : decode cX2_scoreOf 87 = .ok (.iload 8, 2) := by decide +kernel
theorem dX2_scoreOf_89 : decode cX2_scoreOf 89 = .ok (.ifCond .eq 7, 3) := by decide +kernel
theorem dX2_scoreOf_92 : decode cX2_scoreOf 92 = .ok (.iconst 1, 1) := by decide +kernel
theorem dX2_scoreOf_93 : decode cX2_scoreOf 93 = .ok (.goto 4, 3) := by decide +kernel
theorem dX2_scoreOf_96 : decode cX2_scoreOf 96 = .ok (.iconst 0, 1) := by decide +kernel
theorem dX2_scoreOf_97 : decode cX2_scoreOf 97 = .ok (.iadd, 1) := by decide +kernel
theorem dX2_scoreOf_98 : decode cX2_scoreOf 98 = .ok (.iload 6, 2) := by decide +kernel
theorem dX2_scoreOf_100 : decode cX2_scoreOf 100 = .ok (.iload 4, 2) := by decide +kernel
theorem dX2_scoreOf_102 : decode cX2_scoreOf 102 = .ok (.if_icmp .ne 7, 3) := by decide +kernel
theorem dX2_scoreOf_105 : decode cX2_scoreOf 105 = .ok (.iconst 2, 1) := by decide +kernel
theorem dX2_scoreOf_106 : decode cX2_scoreOf 106 = .ok (.goto 4, 3) := by decide +kernel
theorem dX2_scoreOf_109 : decode cX2_scoreOf 109 = .ok (.iconst 0, 1) := by decide +kernel
theorem dX2_scoreOf_110 : decode cX2_scoreOf 110 = .ok (.iadd, 1) := by decide +kernel
theorem dX2_scoreOf_111 : decode cX2_scoreOf 111 = .ok (.iadd, 1) := by decide +kernel
theorem dX2_scoreOf_112 : decode cX2_scoreOf 112 = .ok (.istore 5, 2) := by decide +kernel
theorem dX2_scoreOf_114 : decode cX2_scoreOf 114 = .ok (.iinc 6 1, 3) := by decide +kernel
theorem dX2_scoreOf_117 : decode cX2_scoreOf 117 = .ok (.goto (-94), 3) := by decide +kernel
theorem dX2_scoreOf_120 : decode cX2_scoreOf 120 = .ok (.iload 5, 2) := by decide +kernel
theorem dX2_scoreOf_122 : decode cX2_scoreOf 122 = .ok (.ireturn, 1) := by decide +kernel
theorem dX2_best_0 : decode cX2_best 0 = .ok (.aload_n 0, 1) := by decide +kernel
theorem dX2_best_1 : decode cX2_best 1 = .ok (.iconst 0, 1) := by decide +kernel
theorem dX2_best_2 : decode cX2_best 2 = .ok (.invokestatic 59, 3) := by decide +kernel
theorem dX2_best_5 : decode cX2_best 5 = .ok (.istore_n 1, 1) := by decide +kernel
theorem dX2_best_6 : decode cX2_best 6 = .ok (.aload_n 0, 1) := by decide +kernel
theorem dX2_best_7 : decode cX2_best 7 = .ok (.iconst 1, 1) := by decide +kernel
theorem dX2_best_8 : decode cX2_best 8 = .ok (.invokestatic 59, 3) := by decide +kernel
theorem dX2_best_11 : decode cX2_best 11 = .ok (.istore_n 2, 1) := by decide +kernel
theorem dX2_best_12 : decode cX2_best 12 = .ok (.aload_n 0, 1) := by decide +kernel
theorem dX2_best_13 : decode cX2_best 13 = .ok (.iload_n 2, 1) := by decide +kernel
theorem dX2_best_14 : decode cX2_best 14 = .ok (.iconst 1, 1) := by decide +kernel
theorem dX2_best_15 : decode cX2_best 15 = .ok (.invokestatic 63, 3) := by decide +kernel
theorem dX2_best_18 : decode cX2_best 18 = .ok (.aload_n 0, 1) := by decide +kernel
theorem dX2_best_19 : decode cX2_best 19 = .ok (.iload_n 1, 1) := by decide +kernel
theorem dX2_best_20 : decode cX2_best 20 = .ok (.iconst 0, 1) := by decide +kernel
theorem dX2_best_21 : decode cX2_best 21 = .ok (.invokestatic 63, 3) := by decide +kernel
theorem dX2_best_24 : decode cX2_best 24 = .ok (.if_icmp .le 12, 3) := by decide +kernel
theorem dX2_best_27 : decode cX2_best 27 = .ok (.bipush 100, 2) := by decide +kernel
theorem dX2_best_29 : decode cX2_best 29 = .ok (.iload_n 2, 1) := by decide +kernel
theorem dX2_best_30 : decode cX2_best 30 = .ok (.iconst 1, 1) := by decide +kernel
theorem dX2_best_31 : decode cX2_best 31 = .ok (.invokestatic 11, 3) := by decide +kernel
theorem dX2_best_34 : decode cX2_best 34 = .ok (.iadd, 1) := by decide +kernel
theorem dX2_best_35 : decode cX2_best 35 = .ok (.ireturn, 1) := by decide +kernel
theorem dX2_best_36 : decode cX2_best 36 = .ok (.iload_n 1, 1) := by decide +kernel
theorem dX2_best_37 : decode cX2_best 37 = .ok (.iconst 0, 1) := by decide +kernel
theorem dX2_best_38 : decode cX2_best 38 = .ok (.invokestatic 11, 3) := by decide +kernel
theorem dX2_best_41 : decode cX2_best 41 = .ok (.ireturn, 1) := by decide +kernel
theorem dX2_bestSignature_0 : decode cX2_bestSignature 0 = .ok (.iconst 0, 1) := by decide +kernel
theorem dX2_bestSignature_1 : decode cX2_bestSignature 1 = .ok (.istore_n 2, 1) := by decide +kernel
theorem dX2_bestSignature_2 : decode cX2_bestSignature 2 = .ok (.aload_n 0, 1) := by decide +kernel
theorem dX2_bestSignature_3 : decode cX2_bestSignature 3 = .ok (.iconst 0, 1) := by decide +kernel
theorem dX2_bestSignature_4 : decode cX2_bestSignature 4 = .ok (.iload_n 1, 1) := by decide +kernel
theorem dX2_bestSignature_5 : decode cX2_bestSignature 5 = .ok (.invokestatic 63, 3) := by decide +kernel
theorem dX2_bestSignature_8 : decode cX2_bestSignature 8 = .ok (.istore_n 3, 1) := by decide +kernel
theorem dX2_bestSignature_9 : decode cX2_bestSignature 9 = .ok (.iconst 1, 1) := by decide +kernel
theorem dX2_bestSignature_10 : decode cX2_bestSignature 10 = .ok (.istore 4, 2) := by decide +kernel
theorem dX2_bestSignature_12 : decode cX2_bestSignature 12 = .ok (.iload 4, 2) := by decide +kernel
theorem dX2_bestSignature_14 : decode cX2_bestSignature 14 = .ok (.bipush 6, 2) := by decide +kernel
theorem dX2_bestSignature_16 : decode cX2_bestSignature 16 = .ok (.if_icmp .gt 53, 3) := by decide +kernel
theorem dX2_bestSignature_19 : decode cX2_bestSignature 19 = .ok (.aload_n 0, 1) := by decide +kernel
theorem dX2_bestSignature_20 : decode cX2_bestSignature 20 = .ok (.iload 4, 2) := by decide +kernel
theorem dX2_bestSignature_22 : decode cX2_bestSignature 22 = .ok (.iload_n 1, 1) := by decide +kernel
theorem dX2_bestSignature_23 : decode cX2_bestSignature 23 = .ok (.invokestatic 63, 3) := by decide +kernel
theorem dX2_bestSignature_26 : decode cX2_bestSignature 26 = .ok (.istore 5, 2) := by decide +kernel
theorem dX2_bestSignature_28 : decode cX2_bestSignature 28 = .ok (.iload 5, 2) := by decide +kernel
theorem dX2_bestSignature_30 : decode cX2_bestSignature 30 = .ok (.iload_n 3, 1) := by decide +kernel
theorem dX2_bestSignature_31 : decode cX2_bestSignature 31 = .ok (.if_icmp .le 9, 3) := by decide +kernel
theorem dX2_bestSignature_34 : decode cX2_bestSignature 34 = .ok (.iload 4, 2) := by decide +kernel
theorem dX2_bestSignature_36 : decode cX2_bestSignature 36 = .ok (.istore_n 2, 1) := by decide +kernel
theorem dX2_bestSignature_37 : decode cX2_bestSignature 37 = .ok (.iload 5, 2) := by decide +kernel
theorem dX2_bestSignature_39 : decode cX2_bestSignature 39 = .ok (.istore_n 3, 1) := by decide +kernel
theorem dX2_bestSignature_40 : decode cX2_bestSignature 40 = .ok (.aload_n 0, 1) := by decide +kernel
theorem dX2_bestSignature_41 : decode cX2_bestSignature 41 = .ok (.iload 4, 2) := by decide +kernel
theorem dX2_bestSignature_43 : decode cX2_bestSignature 43 = .ok (.ineg, 1) := by decide +kernel
theorem dX2_bestSignature_44 : decode cX2_bestSignature 44 = .ok (.iload_n 1, 1) := by decide +kernel
theorem dX2_bestSignature_45 : decode cX2_bestSignature 45 = .ok (.invokestatic 63, 3) := by decide +kernel
theorem dX2_bestSignature_48 : decode cX2_bestSignature 48 = .ok (.istore 6, 2) := by decide +kernel
theorem dX2_bestSignature_50 : decode cX2_bestSignature 50 = .ok (.iload 6, 2) := by decide +kernel
theorem dX2_bestSignature_52 : decode cX2_bestSignature 52 = .ok (.iload_n 3, 1) := by decide +kernel
theorem dX2_bestSignature_53 : decode cX2_bestSignature 53 = .ok (.if_icmp .le 10, 3) := by decide +kernel
theorem dX2_bestSignature_56 : decode cX2_bestSignature 56 = .ok (.iload 4, 2) := by decide +kernel
theorem dX2_bestSignature_58 : decode cX2_bestSignature 58 = .ok (.ineg, 1) := by decide +kernel
theorem dX2_bestSignature_59 : decode cX2_bestSignature 59 = .ok (.istore_n 2, 1) := by decide +kernel
theorem dX2_bestSignature_60 : decode cX2_bestSignature 60 = .ok (.iload 6, 2) := by decide +kernel
theorem dX2_bestSignature_62 : decode cX2_bestSignature 62 = .ok (.istore_n 3, 1) := by decide +kernel
theorem dX2_bestSignature_63 : decode cX2_bestSignature 63 = .ok (.iinc 4 1, 3) := by decide +kernel
theorem dX2_bestSignature_66 : decode cX2_bestSignature 66 = .ok (.goto (-54), 3) := by decide +kernel
theorem dX2_bestSignature_69 : decode cX2_bestSignature 69 = .ok (.iload_n 2, 1) := by decide +kernel
theorem dX2_bestSignature_70 : decode cX2_bestSignature 70 = .ok (.ireturn, 1) := by decide +kernel
theorem dX2_isInScale_0 : decode cX2_isInScale 0 = .ok (.iload_n 1, 1) := by decide +kernel
theorem dX2_isInScale_1 : decode cX2_isInScale 1 = .ok (.iconst 1, 1) := by decide +kernel
theorem dX2_isInScale_2 : decode cX2_isInScale 2 = .ok (.isub, 1) := by decide +kernel
theorem dX2_isInScale_3 : decode cX2_isInScale 3 = .ok (.istore_n 2, 1) := by decide +kernel
theorem dX2_isInScale_4 : decode cX2_isInScale 4 = .ok (.iload_n 2, 1) := by decide +kernel
theorem dX2_isInScale_5 : decode cX2_isInScale 5 = .ok (.iload_n 0, 1) := by decide +kernel
theorem dX2_isInScale_6 : decode cX2_isInScale 6 = .ok (.invokestatic 15, 3) := by decide +kernel
theorem dX2_isInScale_9 : decode cX2_isInScale 9 = .ok (.iload_n 2, 1) := by decide +kernel
theorem dX2_isInScale_10 : decode cX2_isInScale 10 = .ok (.bipush 7, 2) := by decide +kernel
theorem dX2_isInScale_12 : decode cX2_isInScale 12 = .ok (.iadd, 1) := by decide +kernel
theorem dX2_isInScale_13 : decode cX2_isInScale 13 = .ok (.if_icmp .ge 7, 3) := by decide +kernel
theorem dX2_isInScale_16 : decode cX2_isInScale 16 = .ok (.iconst 1, 1) := by decide +kernel
theorem dX2_isInScale_17 : decode cX2_isInScale 17 = .ok (.goto 4, 3) := by decide +kernel
theorem dX2_isInScale_20 : decode cX2_isInScale 20 = .ok (.iconst 0, 1) := by decide +kernel
theorem dX2_isInScale_21 : decode cX2_isInScale 21 = .ok (.ireturn, 1) := by decide +kernel
theorem dX3_init_0 : decode cX3_init 0 = .ok (.aload_n 0, 1) := by decide +kernel
theorem dX3_init_1 : decode cX3_init 1 = .ok (.invokespecial 3, 3) := by decide +kernel
theorem dX3_init_4 : decode cX3_init 4 = .ok (.aload_n 0, 1) := by decide +kernel
theorem dX3_init_5 : decode cX3_init 5 = .ok (.new 9, 3) := by decide +kernel
theorem dX3_init_8 : decode cX3_init 8 = .ok (.dup, 1) := by decide +kernel
theorem dX3_init_9 : decode cX3_init 9 = .ok (.invokespecial 11, 3) := by decide +kernel
theorem dX3_init_12 : decode cX3_init 12 = .ok (.putfield 12, 3) := by decide +kernel
theorem dX3_init_15 : decode cX3_init 15 = .ok (.aload_n 0, 1) := by decide +kernel
theorem dX3_init_16 : decode cX3_init 16 = .ok (.new 9, 3) := by decide +kernel
theorem dX3_init_19 : decode cX3_init 19 = .ok (.dup, 1) := by decide +kernel
theorem dX3_init_20 : decode cX3_init 20 = .ok (.invokespecial 11, 3) := by decide +kernel
theorem dX3_init_23 : decode cX3_init 23 = .ok (.putfield 18, 3) := by decide +kernel
theorem dX3_init_26 : decode cX3_init 26 = .ok (.aload_n 0, 1) := by decide +kernel
theorem dX3_init_27 : decode cX3_init 27 = .ok (.aload_n 1, 1) := by decide +kernel
theorem dX3_init_28 : decode cX3_init 28 = .ok (.putfield 21, 3) := by decide +kernel
theorem dX3_init_31 : decode cX3_init 31 = .ok (.return_, 1) := by decide +kernel
theorem dX3_countPairs_0 : decode cX3_countPairs 0 = .ok (.aload_n 0, 1) := by decide +kernel
theorem dX3_countPairs_1 : decode cX3_countPairs 1 = .ok (.iload_n 1, 1) := by decide +kernel
theorem dX3_countPairs_2 : decode cX3_countPairs 2 = .ok (.iload_n 2, 1) := by decide +kernel
theorem dX3_countPairs_3 : decode cX3_countPairs 3 = .ok (.invokevirtual 25, 3) := by decide +kernel
theorem dX3_countPairs_6 : decode cX3_countPairs 6 = .ok (.iconst 0, 1) := by decide +kernel
theorem dX3_countPairs_7 : decode cX3_countPairs 7 = .ok (.istore_n 3, 1) := by decide +kernel
theorem dX3_countPairs_8 : decode cX3_countPairs 8 = .ok (.iload_n 3, 1) := by decide +kernel
theorem dX3_countPairs_9 : decode cX3_countPairs 9 = .ok (.sipush 200, 3) := by decide +kernel
theorem dX3_countPairs_12 : decode cX3_countPairs 12 = .ok (.if_icmp .gt 16, 3) := by decide +kernel
theorem dX3_countPairs_15 : decode cX3_countPairs 15 = .ok (.aload_n 0, 1) := by decide +kernel
theorem dX3_countPairs_16 : decode cX3_countPairs 16 = .ok (.invokevirtual 29, 3) := by decide +kernel
theorem dX3_countPairs_19 : decode cX3_countPairs 19 = .ok (.ifCond .eq 9, 3) := by decide +kernel
theorem dX3_countPairs_22 : decode cX3_countPairs 22 = .ok (.iinc 3 1, 3) := by decide +kernel
theorem dX3_countPairs_25 : decode cX3_countPairs 25 = .ok (.goto (-17), 3) := by decide +kernel
theorem dX3_countPairs_28 : decode cX3_countPairs 28 = .ok (.iload_n 3, 1) := by decide +kernel
theorem dX3_countPairs_29 : decode cX3_countPairs 29 = .ok (.ireturn, 1) := by decide +kernel
theorem dX3_find_0 : decode cX3_find 0 = .ok (.aload_n 0, 1) := by decide +kernel
theorem dX3_find_1 : decode cX3_find 1 = .ok (.getfield 21, 3) := by decide +kernel
theorem dX3_find_4 : decode cX3_find 4 = .ok (.iload_n 1, 1) := by decide +kernel
theorem dX3_find_5 : decode cX3_find 5 = .ok (.invokevirtual 33, 3) := by decide +kernel
theorem dX3_find_8 : decode cX3_find 8 = .ok (.ifCond .eq 27, 3) := by decide +kernel
theorem dX3_find_11 : decode cX3_find 11 = .ok (.iload_n 3, 1) := by decide +kernel
theorem dX3_find_12 : decode cX3_find 12 = .ok (.ifCond .eq 8, 3) := by decide +kernel
theorem dX3_find_15 : decode cX3_find 15 = .ok (.iload_n 3, 1) := by decide +kernel
theorem dX3_find_16 : decode cX3_find 16 = .ok (.iconst 1, 1) := by decide +kernel
theorem dX3_find_17 : decode cX3_find 17 = .ok (.if_icmp .ne 18, 3) := by decide +kernel
theorem dX3_find_20 : decode cX3_find 20 = .ok (.iload_n 2, 1) := by decide +kernel
theorem dX3_find_21 : decode cX3_find 21 = .ok (.ifCond .lt 14, 3) := by decide +kernel
theorem dX3_find_24 : decode cX3_find 24 = .ok (.iload_n 2, 1) := by decide +kernel
theorem dX3_find_25 : decode cX3_find 25 = .ok (.sipush 200, 3) := by decide +kernel
theorem dX3_find_28 : decode cX3_find 28 = .ok (.if_icmp .gt 7, 3) := by decide +kernel
theorem dX3_find_31 : decode cX3_find 31 = .ok (.iconst 1, 1) := by decide +kernel
theorem dX3_find_32 : decode cX3_find 32 = .ok (.goto 4, 3) := by decide +kernel
theorem dX3_find_35 : decode cX3_find 35 = .ok (.iconst 0, 1) := by decide +kernel
theorem dX3_find_36 : decode cX3_find 36 = .ok (.istore 5, 2) := by decide +kernel
theorem dX3_find_38 : decode cX3_find 38 = .ok (.aload_n 0, 1) := by decide +kernel
theorem dX3_find_39 : decode cX3_find 39 = .ok (.iload_n 1, 1) := by decide +kernel
theorem dX3_find_40 : decode cX3_find 40 = .ok (.iload 4, 2) := by decide +kernel
theorem dX3_find_42 : decode cX3_find 42 = .ok (.invokevirtual 25, 3) := by decide +kernel
theorem dX3_find_45 : decode cX3_find 45 = .ok (.iconst 0, 1) := by decide +kernel
theorem dX3_find_46 : decode cX3_find 46 = .ok (.istore 6, 2) := by decide +kernel
theorem dX3_find_48 : decode cX3_find 48 = .ok (.iload 5, 2) := by decide +kernel
theorem dX3_find_50 : decode cX3_find 50 = .ok (.ifCond .eq 21, 3) := by decide +kernel
theorem dX3_find_53 : decode cX3_find 53 = .ok (.iload 6, 2) := by decide +kernel
theorem dX3_find_55 : decode cX3_find 55 = .ok (.iload_n 2, 1) := by decide +kernel
theorem dX3_find_56 : decode cX3_find 56 = .ok (.if_icmp .gt 15, 3) := by decide +kernel
theorem dX3_find_59 : decode cX3_find 59 = .ok (.aload_n 0, 1) := by decide +kernel
theorem dX3_find_60 : decode cX3_find 60 = .ok (.invokevirtual 29, 3) := by decide +kernel
theorem dX3_find_63 : decode cX3_find 63 = .ok (.istore 5, 2) := by decide +kernel
theorem dX3_find_65 : decode cX3_find 65 = .ok (.iinc 6 1, 3) := by decide +kernel
theorem dX3_find_68 : decode cX3_find 68 = .ok (.goto (-20), 3) := by decide +kernel
theorem dX3_find_71 : decode cX3_find 71 = .ok (.iload 5, 2) := by decide +kernel
theorem dX3_find_73 : decode cX3_find 73 = .ok (.ifCond .ne 5, 3) := by decide +kernel
theorem dX3_find_76 : decode cX3_find 76 = .ok (.aconst_null, 1) := by decide +kernel
theorem dX3_find_77 : decode cX3_find 77 = .ok (.areturn, 1) := by decide +kernel
theorem dX3_find_78 : decode cX3_find 78 = .ok (.iload_n 3, 1) := by decide +kernel
theorem dX3_find_79 : decode cX3_find 79 = .ok (.ifCond .ne 10, 3) := by decide +kernel
theorem dX3_find_82 : decode cX3_find 82 = .ok (.aload_n 0, 1) := by decide +kernel
theorem dX3_find_83 : decode cX3_find 83 = .ok (.getfield 12, 3) := by decide +kernel
theorem dX3_find_86 : decode cX3_find 86 = .ok (.goto 7, 3) := by decide +kernel
theorem dX3_find_89 : decode cX3_find 89 = .ok (.aload_n 0, 1) := by decide +kernel
theorem dX3_find_90 : decode cX3_find 90 = .ok (.getfield 18, 3) := by decide +kernel
theorem dX3_find_93 : decode cX3_find 93 = .ok (.areturn, 1) := by decide +kernel
theorem dX3_start_0 : decode cX3_start 0 = .ok (.aload_n 0, 1) := by decide +kernel
theorem dX3_start_1 : decode cX3_start 1 = .ok (.iload_n 1, 1) := by decide +kernel
theorem dX3_start_2 : decode cX3_start 2 = .ok (.putfield 39, 3) := by decide +kernel
theorem dX3_start_5 : decode cX3_start 5 = .ok (.aload_n 0, 1) := by decide +kernel
theorem dX3_start_6 : decode cX3_start 6 = .ok (.iload_n 2, 1) := by decide +kernel
theorem dX3_start_7 : decode cX3_start 7 = .ok (.putfield 43, 3) := by decide +kernel
theorem dX3_start_10 : decode cX3_start 10 = .ok (.aload_n 0, 1) := by decide +kernel
theorem dX3_start_11 : decode cX3_start 11 = .ok (.iconst (-1), 1) := by decide +kernel
theorem dX3_start_12 : decode cX3_start 12 = .ok (.putfield 46, 3) := by decide +kernel
theorem dX3_start_15 : decode cX3_start 15 = .ok (.aload_n 0, 1) := by decide +kernel
theorem dX3_start_16 : decode cX3_start 16 = .ok (.aload_n 0, 1) := by decide +kernel
theorem dX3_start_17 : decode cX3_start 17 = .ok (.getfield 21, 3) := by decide +kernel
theorem dX3_start_20 : decode cX3_start 20 = .ok (.iload_n 1, 1) := by decide +kernel
theorem dX3_start_21 : decode cX3_start 21 = .ok (.iconst (-1), 1) := by decide +kernel
theorem dX3_start_22 : decode cX3_start 22 = .ok (.invokevirtual 49, 3) := by decide +kernel
theorem dX3_start_25 : decode cX3_start 25 = .ok (.putfield 53, 3) := by decide +kernel
theorem dX3_start_28 : decode cX3_start 28 = .ok (.return_, 1) := by decide +kernel
theorem dX3_layNext_0 : decode cX3_layNext 0 = .ok (.aload_n 0, 1) := by decide +kernel
theorem dX3_layNext_1 : decode cX3_layNext 1 = .ok (.getfield 21, 3) := by decide +kernel
theorem dX3_layNext_4 : decode cX3_layNext 4 = .ok (.aload_n 0, 1) := by decide +kernel
theorem dX3_layNext_5 : decode cX3_layNext 5 = .ok (.getfield 39, 3) := by decide +kernel
theorem dX3_layNext_8 : decode cX3_layNext 8 = .ok (.invokevirtual 56, 3) := by decide +kernel
theorem dX3_layNext_11 : decode cX3_layNext 11 = .ok (.istore_n 1, 1) := by decide +kernel
theorem dX3_layNext_12 : decode cX3_layNext 12 = .ok (.aload_n 0, 1) := by decide +kernel
theorem dX3_layNext_13 : decode cX3_layNext 13 = .ok (.getfield 46, 3) := by decide +kernel
theorem dX3_layNext_16 : decode cX3_layNext 16 = .ok (.iload_n 1, 1) := by decide +kernel
theorem dX3_layNext_17 : decode cX3_layNext 17 = .ok (.if_icmp .lt 5, 3) := by decide +kernel
theorem dX3_layNext_20 : decode cX3_layNext 20 = .ok (.iconst 0, 1) := by decide +kernel
theorem dX3_layNext_21 : decode cX3_layNext 21 = .ok (.ireturn, 1) := by decide +kernel
theorem dX3_layNext_22 : decode cX3_layNext 22 = .ok (.aload_n 0, 1) := by decide +kernel
theorem dX3_layNext_23 : decode cX3_layNext 23 = .ok (.aload_n 0, 1) := by decide +kernel
theorem dX3_layNext_24 : decode cX3_layNext 24 = .ok (.getfield 46, 3) := by decide +kernel
theorem dX3_layNext_27 : decode cX3_layNext 27 = .ok (.iconst 0, 1) := by decide +kernel
theorem dX3_layNext_28 : decode cX3_layNext 28 = .ok (.invokestatic 60, 3) := by decide +kernel
theorem dX3_layNext_31 : decode cX3_layNext 31 = .ok (.putfield 65, 3) := by decide +kernel
theorem dX3_layNext_34 : decode cX3_layNext 34 = .ok (.aload_n 0, 1) := by decide +kernel
theorem dX3_layNext_35 : decode cX3_layNext 35 = .ok (.iconst (-1), 1) := by decide +kernel
theorem dX3_layNext_36 : decode cX3_layNext 36 = .ok (.putfield 46, 3) := by decide +kernel
theorem dX3_layNext_39 : decode cX3_layNext 39 = .ok (.aload_n 0, 1) := by decide +kernel
theorem dX3_layNext_40 : decode cX3_layNext 40 = .ok (.aload_n 0, 1) := by decide +kernel
theorem dX3_layNext_41 : decode cX3_layNext 41 = .ok (.getfield 53, 3) := by decide +kernel
theorem dX3_layNext_44 : decode cX3_layNext 44 = .ok (.putfield 68, 3) := by decide +kernel
theorem dX3_layNext_47 : decode cX3_layNext 47 = .ok (.aload_n 0, 1) := by decide +kernel
theorem dX3_layNext_48 : decode cX3_layNext 48 = .ok (.getfield 12, 3) := by decide +kernel
theorem dX3_layNext_51 : decode cX3_layNext 51 = .ok (.iconst 0, 1) := by decide +kernel
theorem dX3_layNext_52 : decode cX3_layNext 52 = .ok (.invokevirtual 71, 3) := by decide +kernel
theorem dX3_layNext_55 : decode cX3_layNext 55 = .ok (.aload_n 0, 1) := by decide +kernel
theorem dX3_layNext_56 : decode cX3_layNext 56 = .ok (.getfield 18, 3) := by decide +kernel
theorem dX3_layNext_59 : decode cX3_layNext 59 = .ok (.iconst 0, 1) := by decide +kernel
theorem dX3_layNext_60 : decode cX3_layNext 60 = .ok (.invokevirtual 71, 3) := by decide +kernel
theorem dX3_layNext_63 : decode cX3_layNext 63 = .ok (.iconst 1, 1) := by decide +kernel
theorem dX3_layNext_64 : decode cX3_layNext 64 = .ok (.istore_n 2, 1) := by decide +kernel
theorem dX3_layNext_65 : decode cX3_layNext 65 = .ok (.aload_n 0, 1) := by decide +kernel
theorem dX3_layNext_66 : decode cX3_layNext 66 = .ok (.getfield 65, 3) := by decide +kernel
theorem dX3_layNext_69 : decode cX3_layNext 69 = .ok (.istore_n 3, 1) := by decide +kernel
theorem dX3_layNext_70 : decode cX3_layNext 70 = .ok (.iload_n 2, 1) := by decide +kernel
theorem dX3_layNext_71 : decode cX3_layNext 71 = .ok (.ifCond .eq 65, 3) := by decide +kernel
theorem dX3_layNext_74 : decode cX3_layNext 74 = .ok (.iload_n 3, 1) := by decide +kernel
theorem dX3_layNext_75 : decode cX3_layNext 75 = .ok (.iload_n 1, 1) := by decide +kernel
theorem dX3_layNext_76 : decode cX3_layNext 76 = .ok (.if_icmp .ge 60, 3) := by decide +kernel
theorem dX3_layNext_79 : decode cX3_layNext 79 = .ok (.aload_n 0, 1) := by decide +kernel
theorem dX3_layNext_80 : decode cX3_layNext 80 = .ok (.iload_n 3, 1) := by decide +kernel
theorem dX3_layNext_81 : decode cX3_layNext 81 = .ok (.invokevirtual 75, 3) := by decide +kernel
theorem dX3_layNext_84 : decode cX3_layNext 84 = .ok (.ifCond .eq 11, 3) := by decide +kernel
theorem dX3_layNext_87 : decode cX3_layNext 87 = .ok (.aload_n 0, 1) := by decide +kernel
theorem dX3_layNext_88 : decode cX3_layNext 88 = .ok (.iload_n 3, 1) := by decide +kernel
theorem dX3_layNext_89 : decode cX3_layNext 89 = .ok (.invokevirtual 78, 3) := by decide +kernel
theorem dX3_layNext_92 : decode cX3_layNext 92 = .ok (.ifCond .eq 7, 3) := by decide +kernel
theorem dX3_layNext_95 : decode cX3_layNext 95 = .ok (.iconst 1, 1) := by decide +kernel
theorem dX3_layNext_96 : decode cX3_layNext 96 = .ok (.goto 4, 3) := by decide +kernel
theorem dX3_layNext_99 : decode cX3_layNext 99 = .ok (.iconst 0, 1) := by decide +kernel
theorem dX3_layNext_100 : decode cX3_layNext 100 = .ok (.istore_n 2, 1) := by decide +kernel
theorem dX3_layNext_101 : decode cX3_layNext 101 = .ok (.iload_n 2, 1) := by decide +kernel
theorem dX3_layNext_102 : decode cX3_layNext 102 = .ok (.ifCond .eq 28, 3) := by decide +kernel
theorem dX3_layNext_105 : decode cX3_layNext 105 = .ok (.aload_n 0, 1) := by decide +kernel
theorem dX3_layNext_106 : decode cX3_layNext 106 = .ok (.iload_n 3, 1) := by decide +kernel
theorem dX3_layNext_107 : decode cX3_layNext 107 = .ok (.invokevirtual 81, 3) := by decide +kernel
theorem dX3_layNext_110 : decode cX3_layNext 110 = .ok (.aload_n 0, 1) := by decide +kernel
theorem dX3_layNext_111 : decode cX3_layNext 111 = .ok (.getfield 18, 3) := by decide +kernel
theorem dX3_layNext_114 : decode cX3_layNext 114 = .ok (.aload_n 0, 1) := by decide +kernel
theorem dX3_layNext_115 : decode cX3_layNext 115 = .ok (.getfield 21, 3) := by decide +kernel
theorem dX3_layNext_118 : decode cX3_layNext 118 = .ok (.aload_n 0, 1) := by decide +kernel
theorem dX3_layNext_119 : decode cX3_layNext 119 = .ok (.getfield 39, 3) := by decide +kernel
theorem dX3_layNext_122 : decode cX3_layNext 122 = .ok (.iload_n 3, 1) := by decide +kernel
theorem dX3_layNext_123 : decode cX3_layNext 123 = .ok (.invokevirtual 84, 3) := by decide +kernel
theorem dX3_layNext_126 : decode cX3_layNext 126 = .ok (.i2c, 1) := by decide +kernel
theorem dX3_layNext_127 : decode cX3_layNext 127 = .ok (.invokevirtual 87, 3) := by decide +kernel
theorem dX3_layNext_130 : decode cX3_layNext 130 = .ok (.iinc 3 1, 3) := by decide +kernel
theorem dX3_layNext_133 : decode cX3_layNext 133 = .ok (.goto (-63), 3) := by decide +kernel
theorem dX3_layNext_136 : decode cX3_layNext 136 = .ok (.iload_n 2, 1) := by decide +kernel
theorem dX3_layNext_137 : decode cX3_layNext 137 = .ok (.ifCond .eq 14, 3) := by decide +kernel
theorem dX3_layNext_140 : decode cX3_layNext 140 = .ok (.aload_n 0, 1) := by decide +kernel
theorem dX3_layNext_141 : decode cX3_layNext 141 = .ok (.iload_n 1, 1) := by decide +kernel
theorem dX3_layNext_142 : decode cX3_layNext 142 = .ok (.invokevirtual 81, 3) := by decide +kernel
theorem dX3_layNext_145 : decode cX3_layNext 145 = .ok (.aload_n 0, 1) := by decide +kernel
theorem dX3_layNext_146 : decode cX3_layNext 146 = .ok (.iload_n 1, 1) := by decide +kernel
theorem dX3_layNext_147 : decode cX3_layNext 147 = .ok (.invokevirtual 78, 3) := by decide +kernel
theorem dX3_layNext_150 : decode cX3_layNext 150 = .ok (.pop, 1) := by decide +kernel
theorem dX3_layNext_151 : decode cX3_layNext 151 = .ok (.aload_n 0, 1) := by decide +kernel
theorem dX3_layNext_152 : decode cX3_layNext 152 = .ok (.invokevirtual 91, 3) := by decide +kernel
theorem dX3_layNext_155 : decode cX3_layNext 155 = .ok (.iconst 1, 1) := by decide +kernel
theorem dX3_layNext_156 : decode cX3_layNext 156 = .ok (.ireturn, 1) := by decide +kernel
theorem dX3_isInnerBreak_0 : decode cX3_isInnerBreak 0 = .ok (.iload_n 1, 1) := by decide +kernel
theorem dX3_isInnerBreak_1 : decode cX3_isInnerBreak 1 = .ok (.aload_n 0, 1) := by decide +kernel
theorem dX3_isInnerBreak_2 : decode cX3_isInnerBreak 2 = .ok (.getfield 65, 3) := by decide +kernel
theorem dX3_isInnerBreak_5 : decode cX3_isInnerBreak 5 = .ok (.if_icmp .le 34, 3) := by decide +kernel
theorem dX3_isInnerBreak_8 : decode cX3_isInnerBreak 8 = .ok (.aload_n 0, 1) := by decide +kernel
theorem dX3_isInnerBreak_9 : decode cX3_isInnerBreak 9 = .ok (.iload_n 1, 1) := by decide +kernel
theorem dX3_isInnerBreak_10 : decode cX3_isInnerBreak 10 = .ok (.invokevirtual 94, 3) := by decide +kernel
theorem dX3_isInnerBreak_13 : decode cX3_isInnerBreak 13 = .ok (.ifCond .eq 26, 3) := by decide +kernel
theorem dX3_isInnerBreak_16 : decode cX3_isInnerBreak 16 = .ok (.aload_n 0, 1) := by decide +kernel
theorem dX3_isInnerBreak_17 : decode cX3_isInnerBreak 17 = .ok (.getfield 21, 3) := by decide +kernel
theorem dX3_isInnerBreak_20 : decode cX3_isInnerBreak 20 = .ok (.aload_n 0, 1) := by decide +kernel
theorem dX3_isInnerBreak_21 : decode cX3_isInnerBreak 21 = .ok (.getfield 39, 3) := by decide +kernel
theorem dX3_isInnerBreak_24 : decode cX3_isInnerBreak 24 = .ok (.iload_n 1, 1) := by decide +kernel
theorem dX3_isInnerBreak_25 : decode cX3_isInnerBreak 25 = .ok (.iconst 1, 1) := by decide +kernel
theorem dX3_isInnerBreak_26 : decode cX3_isInnerBreak 26 = .ok (.isub, 1) := by decide +kernel
theorem dX3_isInnerBreak_27 : decode cX3_isInnerBreak 27 = .ok (.invokevirtual 84, 3) := by decide +kernel
theorem dX3_isInnerBreak_30 : decode cX3_isInnerBreak 30 = .ok (.bipush 32, 2) := by decide +kernel
theorem dX3_isInnerBreak_32 : decode cX3_isInnerBreak 32 = .ok (.if_icmp .ne 7, 3) := by decide +kernel
theorem dX3_isInnerBreak_35 : decode cX3_isInnerBreak 35 = .ok (.iconst 1, 1) := by decide +kernel
theorem dX3_isInnerBreak_36 : decode cX3_isInnerBreak 36 = .ok (.goto 4, 3) := by decide +kernel
theorem dX3_isInnerBreak_39 : decode cX3_isInnerBreak 39 = .ok (.iconst 0, 1) := by decide +kernel
theorem dX3_isInnerBreak_40 : decode cX3_isInnerBreak 40 = .ok (.ireturn, 1) := by decide +kernel
theorem dX3_isLetter_0 : decode cX3_isLetter 0 = .ok (.aload_n 0, 1) := by decide +kernel
theorem dX3_isLetter_1 : decode cX3_isLetter 1 = .ok (.getfield 21, 3) := by decide +kernel
theorem dX3_isLetter_4 : decode cX3_isLetter 4 = .ok (.aload_n 0, 1) := by decide +kernel
theorem dX3_isLetter_5 : decode cX3_isLetter 5 = .ok (.getfield 39, 3) := by decide +kernel
theorem dX3_isLetter_8 : decode cX3_isLetter 8 = .ok (.iload_n 1, 1) := by decide +kernel
theorem dX3_isLetter_9 : decode cX3_isLetter 9 = .ok (.invokevirtual 84, 3) := by decide +kernel
theorem dX3_isLetter_12 : decode cX3_isLetter 12 = .ok (.istore_n 2, 1) := by decide +kernel
theorem dX3_isLetter_13 : decode cX3_isLetter 13 = .ok (.iload_n 2, 1) := by decide +kernel
theorem dX3_isLetter_14 : decode cX3_isLetter 14 = .ok (.iconst (-1), 1) := by decide +kernel
theorem dX3_isLetter_15 : decode cX3_isLetter 15 = .ok (.if_icmp .eq 13, 3) := by decide +kernel
theorem dX3_isLetter_18 : decode cX3_isLetter 18 = .ok (.iload_n 2, 1) := by decide +kernel
theorem dX3_isLetter_19 : decode cX3_isLetter 19 = .ok (.bipush 32, 2) := by decide +kernel
theorem dX3_isLetter_21 : decode cX3_isLetter 21 = .ok (.if_icmp .eq 7, 3) := by decide +kernel
theorem dX3_isLetter_24 : decode cX3_isLetter 24 = .ok (.iconst 1, 1) := by decide +kernel
theorem dX3_isLetter_25 : decode cX3_isLetter 25 = .ok (.goto 4, 3) := by decide +kernel
theorem dX3_isLetter_28 : decode cX3_isLetter 28 = .ok (.iconst 0, 1) := by decide +kernel
theorem dX3_isLetter_29 : decode cX3_isLetter 29 = .ok (.ireturn, 1) := by decide +kernel
theorem dX3_offerEnd_0 : decode cX3_offerEnd 0 = .ok (.aload_n 0, 1) := by decide +kernel
theorem dX3_offerEnd_1 : decode cX3_offerEnd 1 = .ok (.getfield 12, 3) := by decide +kernel
theorem dX3_offerEnd_4 : decode cX3_offerEnd 4 = .ok (.invokevirtual 97, 3) := by decide +kernel
theorem dX3_offerEnd_7 : decode cX3_offerEnd 7 = .ok (.aload_n 0, 1) := by decide +kernel
theorem dX3_offerEnd_8 : decode cX3_offerEnd 8 = .ok (.getfield 43, 3) := by decide +kernel
theorem dX3_offerEnd_11 : decode cX3_offerEnd 11 = .ok (.if_icmp .gt 21, 3) := by decide +kernel
theorem dX3_offerEnd_14 : decode cX3_offerEnd 14 = .ok (.aload_n 0, 1) := by decide +kernel
theorem dX3_offerEnd_15 : decode cX3_offerEnd 15 = .ok (.getfield 18, 3) := by decide +kernel
theorem dX3_offerEnd_18 : decode cX3_offerEnd 18 = .ok (.invokevirtual 97, 3) := by decide +kernel
theorem dX3_offerEnd_21 : decode cX3_offerEnd 21 = .ok (.aload_n 0, 1) := by decide +kernel
theorem dX3_offerEnd_22 : decode cX3_offerEnd 22 = .ok (.getfield 43, 3) := by decide +kernel
theorem dX3_offerEnd_25 : decode cX3_offerEnd 25 = .ok (.if_icmp .gt 7, 3) := by decide +kernel
theorem dX3_offerEnd_28 : decode cX3_offerEnd 28 = .ok (.iconst 1, 1) := by decide +kernel
theorem dX3_offerEnd_29 : decode cX3_offerEnd 29 = .ok (.goto 4, 3) := by decide +kernel
theorem dX3_offerEnd_32 : decode cX3_offerEnd 32 = .ok (.iconst 0, 1) := by decide +kernel
theorem dX3_offerEnd_33 : decode cX3_offerEnd 33 = .ok (.istore_n 2, 1) := by decide +kernel
theorem dX3_offerEnd_34 : decode cX3_offerEnd 34 = .ok (.iload_n 2, 1) := by decide +kernel
theorem dX3_offerEnd_35 : decode cX3_offerEnd 35 = .ok (.ifCond .ne 11, 3) := by decide +kernel
theorem dX3_offerEnd_38 : decode cX3_offerEnd 38 = .ok (.aload_n 0, 1) := by decide +kernel
theorem dX3_offerEnd_39 : decode cX3_offerEnd 39 = .ok (.getfield 46, 3) := by decide +kernel
theorem dX3_offerEnd_42 : decode cX3_offerEnd 42 = .ok (.iconst (-1), 1) := by decide +kernel
theorem dX3_offerEnd_43 : decode cX3_offerEnd 43 = .ok (.if_icmp .ne 38, 3) := by decide +kernel
theorem dX3_offerEnd_46 : decode cX3_offerEnd 46 = .ok (.aload_n 0, 1) := by decide +kernel
theorem dX3_offerEnd_47 : decode cX3_offerEnd 47 = .ok (.iload_n 1, 1) := by decide +kernel
theorem dX3_offerEnd_48 : decode cX3_offerEnd 48 = .ok (.putfield 46, 3) := by decide +kernel
theorem dX3_offerEnd_51 : decode cX3_offerEnd 51 = .ok (.aload_n 0, 1) := by decide +kernel
theorem dX3_offerEnd_52 : decode cX3_offerEnd 52 = .ok (.aload_n 0, 1) := by decide +kernel
theorem dX3_offerEnd_53 : decode cX3_offerEnd 53 = .ok (.getfield 68, 3) := by decide +kernel
theorem dX3_offerEnd_56 : decode cX3_offerEnd 56 = .ok (.putfield 53, 3) := by decide +kernel
theorem dX3_offerEnd_59 : decode cX3_offerEnd 59 = .ok (.aload_n 0, 1) := by decide +kernel
theorem dX3_offerEnd_60 : decode cX3_offerEnd 60 = .ok (.aload_n 0, 1) := by decide +kernel
theorem dX3_offerEnd_61 : decode cX3_offerEnd 61 = .ok (.getfield 12, 3) := by decide +kernel
theorem dX3_offerEnd_64 : decode cX3_offerEnd 64 = .ok (.invokevirtual 97, 3) := by decide +kernel
theorem dX3_offerEnd_67 : decode cX3_offerEnd 67 = .ok (.putfield 101, 3) := by decide +kernel
theorem dX3_offerEnd_70 : decode cX3_offerEnd 70 = .ok (.aload_n 0, 1) := by decide +kernel
theorem dX3_offerEnd_71 : decode cX3_offerEnd 71 = .ok (.aload_n 0, 1) := by decide +kernel
theorem dX3_offerEnd_72 : decode cX3_offerEnd 72 = .ok (.getfield 18, 3) := by decide +kernel
theorem dX3_offerEnd_75 : decode cX3_offerEnd 75 = .ok (.invokevirtual 97, 3) := by decide +kernel
theorem dX3_offerEnd_78 : decode cX3_offerEnd 78 = .ok (.putfield 104, 3) := by decide +kernel
theorem dX3_offerEnd_81 : decode cX3_offerEnd 81 = .ok (.iload_n 2, 1) := by decide +kernel
theorem dX3_offerEnd_82 : decode cX3_offerEnd 82 = .ok (.ireturn, 1) := by decide +kernel
theorem dX3_cutBack_0 : decode cX3_cutBack 0 = .ok (.aload_n 0, 1) := by decide +kernel
theorem dX3_cutBack_1 : decode cX3_cutBack 1 = .ok (.getfield 12, 3) := by decide +kernel
theorem dX3_cutBack_4 : decode cX3_cutBack 4 = .ok (.aload_n 0, 1) := by decide +kernel
theorem dX3_cutBack_5 : decode cX3_cutBack 5 = .ok (.getfield 101, 3) := by decide +kernel
theorem dX3_cutBack_8 : decode cX3_cutBack 8 = .ok (.invokevirtual 71, 3) := by decide +kernel
theorem dX3_cutBack_11 : decode cX3_cutBack 11 = .ok (.aload_n 0, 1) := by decide +kernel
theorem dX3_cutBack_12 : decode cX3_cutBack 12 = .ok (.getfield 18, 3) := by decide +kernel
theorem dX3_cutBack_15 : decode cX3_cutBack 15 = .ok (.aload_n 0, 1) := by decide +kernel
theorem dX3_cutBack_16 : decode cX3_cutBack 16 = .ok (.getfield 104, 3) := by decide +kernel
theorem dX3_cutBack_19 : decode cX3_cutBack 19 = .ok (.invokevirtual 71, 3) := by decide +kernel
theorem dX3_cutBack_22 : decode cX3_cutBack 22 = .ok (.return_, 1) := by decide +kernel
theorem dX3_placeChords_0 : decode cX3_placeChords 0 = .ok (.aload_n 0, 1) := by decide +kernel
theorem dX3_placeChords_1 : decode cX3_placeChords 1 = .ok (.iload_n 1, 1) := by decide +kernel
theorem dX3_placeChords_2 : decode cX3_placeChords 2 = .ok (.iconst 1, 1) := by decide +kernel
theorem dX3_placeChords_3 : decode cX3_placeChords 3 = .ok (.isub, 1) := by decide +kernel
theorem dX3_placeChords_4 : decode cX3_placeChords 4 = .ok (.invokevirtual 94, 3) := by decide +kernel
theorem dX3_placeChords_7 : decode cX3_placeChords 7 = .ok (.ifCond .eq 16, 3) := by decide +kernel
theorem dX3_placeChords_10 : decode cX3_placeChords 10 = .ok (.aload_n 0, 1) := by decide +kernel
theorem dX3_placeChords_11 : decode cX3_placeChords 11 = .ok (.iload_n 1, 1) := by decide +kernel
theorem dX3_placeChords_12 : decode cX3_placeChords 12 = .ok (.invokevirtual 94, 3) := by decide +kernel
theorem dX3_placeChords_15 : decode cX3_placeChords 15 = .ok (.ifCond .eq 8, 3) := by decide +kernel
theorem dX3_placeChords_18 : decode cX3_placeChords 18 = .ok (.bipush 45, 2) := by decide +kernel
theorem dX3_placeChords_20 : decode cX3_placeChords 20 = .ok (.goto 5, 3) := by decide +kernel
theorem dX3_placeChords_23 : decode cX3_placeChords 23 = .ok (.bipush 32, 2) := by decide +kernel
theorem dX3_placeChords_25 : decode cX3_placeChords 25 = .ok (.istore_n 2, 1) := by decide +kernel
theorem dX3_placeChords_26 : decode cX3_placeChords 26 = .ok (.aload_n 0, 1) := by decide +kernel
theorem dX3_placeChords_27 : decode cX3_placeChords 27 = .ok (.getfield 68, 3) := by decide +kernel
theorem dX3_placeChords_30 : decode cX3_placeChords 30 = .ok (.aload_n 0, 1) := by decide +kernel
theorem dX3_placeChords_31 : decode cX3_placeChords 31 = .ok (.getfield 21, 3) := by decide +kernel
theorem dX3_placeChords_34 : decode cX3_placeChords 34 = .ok (.invokevirtual 107, 3) := by decide +kernel
theorem dX3_placeChords_37 : decode cX3_placeChords 37 = .ok (.if_icmp .ge 93, 3) := by decide +kernel
theorem dX3_placeChords_40 : decode cX3_placeChords 40 = .ok (.aload_n 0, 1) := by decide +kernel
theorem dX3_placeChords_41 : decode cX3_placeChords 41 = .ok (.getfield 21, 3) := by decide +kernel
theorem dX3_placeChords_44 : decode cX3_placeChords 44 = .ok (.aload_n 0, 1) := by decide +kernel
theorem dX3_placeChords_45 : decode cX3_placeChords 45 = .ok (.getfield 68, 3) := by decide +kernel
theorem dX3_placeChords_48 : decode cX3_placeChords 48 = .ok (.aload_n 0, 1) := by decide +kernel
theorem dX3_placeChords_49 : decode cX3_placeChords 49 = .ok (.getfield 39, 3) := by decide +kernel
theorem dX3_placeChords_52 : decode cX3_placeChords 52 = .ok (.iload_n 1, 1) := by decide +kernel
theorem dX3_placeChords_53 : decode cX3_placeChords 53 = .ok (.invokevirtual 110, 3) := by decide +kernel
theorem dX3_placeChords_56 : decode cX3_placeChords 56 = .ok (.ifCond .eq 74, 3) := by decide +kernel
theorem dX3_placeChords_59 : decode cX3_placeChords 59 = .ok (.aload_n 0, 1) := by decide +kernel
theorem dX3_placeChords_60 : decode cX3_placeChords 60 = .ok (.getfield 12, 3) := by decide +kernel
theorem dX3_placeChords_63 : decode cX3_placeChords 63 = .ok (.invokevirtual 97, 3) := by decide +kernel
theorem dX3_placeChords_66 : decode cX3_placeChords 66 = .ok (.ifCond .le 20, 3) := by decide +kernel
theorem dX3_placeChords_69 : decode cX3_placeChords 69 = .ok (.aload_n 0, 1) := by decide +kernel
theorem dX3_placeChords_70 : decode cX3_placeChords 70 = .ok (.getfield 18, 3) := by decide +kernel
theorem dX3_placeChords_73 : decode cX3_placeChords 73 = .ok (.aload_n 0, 1) := by decide +kernel
theorem dX3_placeChords_74 : decode cX3_placeChords 74 = .ok (.getfield 12, 3) := by decide +kernel
theorem dX3_placeChords_77 : decode cX3_placeChords 77 = .ok (.invokevirtual 97, 3) := by decide +kernel
theorem dX3_placeChords_80 : decode cX3_placeChords 80 = .ok (.iconst 1, 1) := by decide +kernel
theorem dX3_placeChords_81 : decode cX3_placeChords 81 = .ok (.iadd, 1) := by decide +kernel
theorem dX3_placeChords_82 : decode cX3_placeChords 82 = .ok (.iload_n 2, 1) := by decide +kernel
theorem dX3_placeChords_83 : decode cX3_placeChords 83 = .ok (.invokevirtual 114, 3) := by decide +kernel
theorem dX3_placeChords_86 : decode cX3_placeChords 86 = .ok (.aload_n 0, 1) := by decide +kernel
theorem dX3_placeChords_87 : decode cX3_placeChords 87 = .ok (.getfield 12, 3) := by decide +kernel
theorem dX3_placeChords_90 : decode cX3_placeChords 90 = .ok (.aload_n 0, 1) := by decide +kernel
theorem dX3_placeChords_91 : decode cX3_placeChords 91 = .ok (.getfield 18, 3) := by decide +kernel
theorem dX3_placeChords_94 : decode cX3_placeChords 94 = .ok (.invokevirtual 97, 3) := by decide +kernel
theorem dX3_placeChords_97 : decode cX3_placeChords 97 = .ok (.bipush 32, 2) := by decide +kernel
theorem dX3_placeChords_99 : decode cX3_placeChords 99 = .ok (.invokevirtual 114, 3) := by decide +kernel
theorem dX3_placeChords_102 : decode cX3_placeChords 102 = .ok (.aload_n 0, 1) := by decide +kernel
theorem dX3_placeChords_103 : decode cX3_placeChords 103 = .ok (.getfield 21, 3) := by decide +kernel
theorem dX3_placeChords_106 : decode cX3_placeChords 106 = .ok (.aload_n 0, 1) := by decide +kernel
theorem dX3_placeChords_107 : decode cX3_placeChords 107 = .ok (.getfield 68, 3) := by decide +kernel
theorem dX3_placeChords_110 : decode cX3_placeChords 110 = .ok (.aload_n 0, 1) := by decide +kernel
theorem dX3_placeChords_111 : decode cX3_placeChords 111 = .ok (.getfield 12, 3) := by decide +kernel
theorem dX3_placeChords_114 : decode cX3_placeChords 114 = .ok (.invokevirtual 118, 3) := by decide +kernel
theorem dX3_placeChords_117 : decode cX3_placeChords 117 = .ok (.aload_n 0, 1) := by decide +kernel
theorem dX3_placeChords_118 : decode cX3_placeChords 118 = .ok (.dup, 1) := by decide +kernel
theorem dX3_placeChords_119 : decode cX3_placeChords 119 = .ok (.getfield 68, 3) := by decide +kernel
theorem dX3_placeChords_122 : decode cX3_placeChords 122 = .ok (.iconst 1, 1) := by decide +kernel
theorem dX3_placeChords_123 : decode cX3_placeChords 123 = .ok (.iadd, 1) := by decide +kernel
theorem dX3_placeChords_124 : decode cX3_placeChords 124 = .ok (.putfield 68, 3) := by decide +kernel
theorem dX3_placeChords_127 : decode cX3_placeChords 127 = .ok (.goto (-101), 3) := by decide +kernel
theorem dX3_placeChords_130 : decode cX3_placeChords 130 = .ok (.return_, 1) := by decide +kernel
theorem dX4_pitchClass_0 : decode cX4_pitchClass 0 = .ok (.bipush 7, 2) := by decide +kernel
theorem dX4_pitchClass_2 : decode cX4_pitchClass 2 = .ok (.iload_n 0, 1) := by decide +kernel
theorem dX4_pitchClass_3 : decode cX4_pitchClass 3 = .ok (.imul, 1) := by decide +kernel
theorem dX4_pitchClass_4 : decode cX4_pitchClass 4 = .ok (.bipush 12, 2) := by decide +kernel
theorem dX4_pitchClass_6 : decode cX4_pitchClass 6 = .ok (.invokestatic 9, 3) := by decide +kernel
theorem dX4_pitchClass_9 : decode cX4_pitchClass 9 = .ok (.ireturn, 1) := by decide +kernel
theorem dX4_raised_0 : decode cX4_raised 0 = .ok (.bipush 7, 2) := by decide +kernel
theorem dX4_raised_2 : decode cX4_raised 2 = .ok (.iload_n 0, 1) := by decide +kernel
theorem dX4_raised_3 : decode cX4_raised 3 = .ok (.imul, 1) := by decide +kernel
theorem dX4_raised_4 : decode cX4_raised 4 = .ok (.iload_n 1, 1) := by decide +kernel
theorem dX4_raised_5 : decode cX4_raised 5 = .ok (.iadd, 1) := by decide +kernel
theorem dX4_raised_6 : decode cX4_raised 6 = .ok (.bipush 12, 2) := by decide +kernel
theorem dX4_raised_8 : decode cX4_raised 8 = .ok (.invokestatic 9, 3) := by decide +kernel
theorem dX4_raised_11 : decode cX4_raised 11 = .ok (.ireturn, 1) := by decide +kernel
theorem dX4_raisedSet_0 : decode cX4_raisedSet 0 = .ok (.iload_n 0, 1) := by decide +kernel
theorem dX4_raisedSet_1 : decode cX4_raisedSet 1 = .ok (.iload_n 1, 1) := by decide +kernel
theorem dX4_raisedSet_2 : decode cX4_raisedSet 2 = .ok (.ishl, 1) := by decide +kernel
theorem dX4_raisedSet_3 : decode cX4_raisedSet 3 = .ok (.istore_n 2, 1) := by decide +kernel
theorem dX4_raisedSet_4 : decode cX4_raisedSet 4 = .ok (.iload_n 2, 1) := by decide +kernel
theorem dX4_raisedSet_5 : decode cX4_raisedSet 5 = .ok (.iload_n 2, 1) := by decide +kernel
theorem dX4_raisedSet_6 : decode cX4_raisedSet 6 = .ok (.bipush 12, 2) := by decide +kernel
theorem dX4_raisedSet_8 : decode cX4_raisedSet 8 = .ok (.ishr, 1) := by decide +kernel
theorem dX4_raisedSet_9 : decode cX4_raisedSet 9 = .ok (.ior, 1) := by decide +kernel
theorem dX4_raisedSet_10 : decode cX4_raisedSet 10 = .ok (.sipush 4095, 3) := by decide +kernel
theorem dX4_raisedSet_13 : decode cX4_raisedSet 13 = .ok (.iand, 1) := by decide +kernel
theorem dX4_raisedSet_14 : decode cX4_raisedSet 14 = .ok (.ireturn, 1) := by decide +kernel
theorem dX4_placeFrom_0 : decode cX4_placeFrom 0 = .ok (.iload_n 0, 1) := by decide +kernel
theorem dX4_placeFrom_1 : decode cX4_placeFrom 1 = .ok (.bipush 7, 2) := by decide +kernel
theorem dX4_placeFrom_3 : decode cX4_placeFrom 3 = .ok (.iload_n 1, 1) := by decide +kernel
theorem dX4_placeFrom_4 : decode cX4_placeFrom 4 = .ok (.imul, 1) := by decide +kernel
theorem dX4_placeFrom_5 : decode cX4_placeFrom 5 = .ok (.iload_n 0, 1) := by decide +kernel
theorem dX4_placeFrom_6 : decode cX4_placeFrom 6 = .ok (.isub, 1) := by decide +kernel
theorem dX4_placeFrom_7 : decode cX4_placeFrom 7 = .ok (.bipush 12, 2) := by decide +kernel
theorem dX4_placeFrom_9 : decode cX4_placeFrom 9 = .ok (.invokestatic 9, 3) := by decide +kernel
theorem dX4_placeFrom_12 : decode cX4_placeFrom 12 = .ok (.iadd, 1) := by decide +kernel
theorem dX4_placeFrom_13 : decode cX4_placeFrom 13 = .ok (.ireturn, 1) := by decide +kernel
theorem dX4_natural_0 : decode cX4_natural 0 = .ok (.iload_n 0, 1) := by decide +kernel
theorem dX4_natural_1 : decode cX4_natural 1 = .ok (.bipush 65, 2) := by decide +kernel
theorem dX4_natural_3 : decode cX4_natural 3 = .ok (.if_icmp .lt 9, 3) := by decide +kernel
theorem dX4_natural_6 : decode cX4_natural 6 = .ok (.iload_n 0, 1) := by decide +kernel
theorem dX4_natural_7 : decode cX4_natural 7 = .ok (.bipush 71, 2) := by decide +kernel
theorem dX4_natural_9 : decode cX4_natural 9 = .ok (.if_icmp .le 6, 3) := by decide +kernel
theorem dX4_natural_12 : decode cX4_natural 12 = .ok (.bipush 100, 2) := by decide +kernel
theorem dX4_natural_14 : decode cX4_natural 14 = .ok (.ireturn, 1) := by decide +kernel
theorem dX4_natural_15 : decode cX4_natural 15 = .ok (.iconst (-1), 1) := by decide +kernel
theorem dX4_natural_16 : decode cX4_natural 16 = .ok (.ldc 17, 2) := by decide +kernel
theorem dX4_natural_18 : decode cX4_natural 18 = .ok (.iload_n 0, 1) := by decide +kernel
theorem dX4_natural_19 : decode cX4_natural 19 = .ok (.i2c, 1) := by decide +kernel
theorem dX4_natural_20 : decode cX4_natural 20 = .ok (.invokevirtual 19, 3) := by decide +kernel
theorem dX4_natural_23 : decode cX4_natural 23 = .ok (.iadd, 1) := by decide +kernel
theorem dX4_natural_24 : decode cX4_natural 24 = .ok (.ireturn, 1) := by decide +kernel
theorem dX4_accidentals_0 : decode cX4_accidentals 0 = .ok (.iload_n 0, 1) := by decide +kernel
theorem dX4_accidentals_1 : decode cX4_accidentals 1 = .ok (.iconst (-1), 1) := by decide +kernel
theorem dX4_accidentals_2 : decode cX4_accidentals 2 = .ok (.isub, 1) := by decide +kernel
theorem dX4_accidentals_3 : decode cX4_accidentals 3 = .ok (.bipush 7, 2) := by decide +kernel
theorem dX4_accidentals_5 : decode cX4_accidentals 5 = .ok (.invokestatic 25, 3) := by decide +kernel
theorem dX4_accidentals_8 : decode cX4_accidentals 8 = .ok (.ireturn, 1) := by decide +kernel
theorem dX4_spelled_0 : decode cX4_spelled 0 = .ok (.iload_n 1, 1) := by decide +kernel
theorem dX4_spelled_1 : decode cX4_spelled 1 = .ok (.iconst 3, 1) := by decide +kernel
theorem dX4_spelled_2 : decode cX4_spelled 2 = .ok (.isub, 1) := by decide +kernel
theorem dX4_spelled_3 : decode cX4_spelled 3 = .ok (.iload_n 0, 1) := by decide +kernel
theorem dX4_spelled_4 : decode cX4_spelled 4 = .ok (.invokestatic 28, 3) := by decide +kernel
theorem dX4_spelled_7 : decode cX4_spelled 7 = .ok (.istore_n 3, 1) := by decide +kernel
theorem dX4_spelled_8 : decode cX4_spelled 8 = .ok (.iload_n 3, 1) := by decide +kernel
theorem dX4_spelled_9 : decode cX4_spelled 9 = .ok (.invokestatic 31, 3) := by decide +kernel
theorem dX4_spelled_12 : decode cX4_spelled 12 = .ok (.invokestatic 34, 3) := by decide +kernel
theorem dX4_spelled_15 : decode cX4_spelled 15 = .ok (.iconst 2, 1) := by decide +kernel
theorem dX4_spelled_16 : decode cX4_spelled 16 = .ok (.if_icmp .ne 7, 3) := by decide +kernel
theorem dX4_spelled_19 : decode cX4_spelled 19 = .ok (.iconst 1, 1) := by decide +kernel
theorem dX4_spelled_20 : decode cX4_spelled 20 = .ok (.goto 4, 3) := by decide +kernel
theorem dX4_spelled_23 : decode cX4_spelled 23 = .ok (.iconst 0, 1) := by decide +kernel
theorem dX4_spelled_24 : decode cX4_spelled 24 = .ok (.istore 4, 2) := by decide +kernel
theorem dX4_spelled_26 : decode cX4_spelled 26 = .ok (.iload_n 2, 1) := by decide +kernel
theorem dX4_spelled_27 : decode cX4_spelled 27 = .ok (.ifCond .eq 16, 3) := by decide +kernel
theorem dX4_spelled_30 : decode cX4_spelled 30 = .ok (.iload 4, 2) := by decide +kernel
theorem dX4_spelled_32 : decode cX4_spelled 32 = .ok (.ifCond .eq 11, 3) := by decide +kernel
theorem dX4_spelled_35 : decode cX4_spelled 35 = .ok (.iconst (-1), 1) := by decide +kernel
theorem dX4_spelled_36 : decode cX4_spelled 36 = .ok (.iload_n 0, 1) := by decide +kernel
theorem dX4_spelled_37 : decode cX4_spelled 37 = .ok (.invokestatic 28, 3) := by decide +kernel
theorem dX4_spelled_40 : decode cX4_spelled 40 = .ok (.goto 4, 3) := by decide +kernel
theorem dX4_spelled_43 : decode cX4_spelled 43 = .ok (.iload_n 3, 1) := by decide +kernel
theorem dX4_spelled_44 : decode cX4_spelled 44 = .ok (.ireturn, 1) := by decide +kernel
theorem dX4_write_0 : decode cX4_write 0 = .ok (.aload_n 1, 1) := by decide +kernel
theorem dX4_write_1 : decode cX4_write 1 = .ok (.ldc 17, 2) := by decide +kernel
theorem dX4_write_3 : decode cX4_write 3 = .ok (.iload_n 0, 1) := by decide +kernel
theorem dX4_write_4 : decode cX4_write 4 = .ok (.iconst (-1), 1) := by decide +kernel
theorem dX4_write_5 : decode cX4_write 5 = .ok (.isub, 1) := by decide +kernel
theorem dX4_write_6 : decode cX4_write 6 = .ok (.bipush 7, 2) := by decide +kernel
theorem dX4_write_8 : decode cX4_write 8 = .ok (.invokestatic 9, 3) := by decide +kernel
theorem dX4_write_11 : decode cX4_write 11 = .ok (.invokevirtual 37, 3) := by decide +kernel
theorem dX4_write_14 : decode cX4_write 14 = .ok (.invokevirtual 41, 3) := by decide +kernel
theorem dX4_write_17 : decode cX4_write 17 = .ok (.iload_n 0, 1) := by decide +kernel
theorem dX4_write_18 : decode cX4_write 18 = .ok (.invokestatic 31, 3) := by decide +kernel
theorem dX4_write_21 : decode cX4_write 21 = .ok (.istore_n 2, 1) := by decide +kernel
theorem dX4_write_22 : decode cX4_write 22 = .ok (.iconst 0, 1) := by decide +kernel
theorem dX4_write_23 : decode cX4_write 23 = .ok (.istore_n 3, 1) := by decide +kernel
theorem dX4_write_24 : decode cX4_write 24 = .ok (.iload_n 3, 1) := by decide +kernel
theorem dX4_write_25 : decode cX4_write 25 = .ok (.iload_n 2, 1) := by decide +kernel
theorem dX4_write_26 : decode cX4_write 26 = .ok (.invokestatic 34, 3) := by decide +kernel
theorem dX4_write_29 : decode cX4_write 29 = .ok (.if_icmp .ge 24, 3) := by decide +kernel
theorem dX4_write_32 : decode cX4_write 32 = .ok (.aload_n 1, 1) := by decide +kernel
theorem dX4_write_33 : decode cX4_write 33 = .ok (.iload_n 2, 1) := by decide +kernel
theorem dX4_write_34 : decode cX4_write 34 = .ok (.ifCond .le 8, 3) := by decide +kernel
theorem dX4_write_37 : decode cX4_write 37 = .ok (.bipush 35, 2) := by decide +kernel
theorem dX4_write_39 : decode cX4_write 39 = .ok (.goto 5, 3) := by decide +kernel
theorem dX4_write_42 : decode cX4_write 42 = .ok (.bipush 98, 2) := by decide +kernel
theorem dX4_write_44 : decode cX4_write 44 = .ok (.invokevirtual 41, 3) := by decide +kernel
theorem dX4_write_47 : decode cX4_write 47 = .ok (.iinc 3 1, 3) := by decide +kernel
theorem dX4_write_50 : decode cX4_write 50 = .ok (.goto (-26), 3) := by decide +kernel
theorem dX4_write_53 : decode cX4_write 53 = .ok (.return_, 1) := by decide +kernel
theorem dX5_count_0 : decode cX5_count 0 = .ok (.getstatic 68, 3) := by decide +kernel
theorem dX5_count_3 : decode cX5_count 3 = .ok (.arraylength, 1) := by decide +kernel
theorem dX5_count_4 : decode cX5_count 4 = .ok (.ireturn, 1) := by decide +kernel
theorem dX5_at_0 : decode cX5_at 0 = .ok (.iload_n 0, 1) := by decide +kernel
theorem dX5_at_1 : decode cX5_at 1 = .ok (.ifCond .lt 19, 3) := by decide +kernel
theorem dX5_at_4 : decode cX5_at 4 = .ok (.iload_n 0, 1) := by decide +kernel
theorem dX5_at_5 : decode cX5_at 5 = .ok (.getstatic 68, 3) := by decide +kernel
theorem dX5_at_8 : decode cX5_at 8 = .ok (.arraylength, 1) := by decide +kernel
theorem dX5_at_9 : decode cX5_at 9 = .ok (.if_icmp .ge 11, 3) := by decide +kernel
theorem dX5_at_12 : decode cX5_at 12 = .ok (.getstatic 68, 3) := by decide +kernel
theorem dX5_at_15 : decode cX5_at 15 = .ok (.iload_n 0, 1) := by decide +kernel
theorem dX5_at_16 : decode cX5_at 16 = .ok (.aaload, 1) := by decide +kernel
theorem dX5_at_17 : decode cX5_at 17 = .ok (.goto 6, 3) := by decide +kernel
theorem dX5_at_20 : decode cX5_at 20 = .ok (.getstatic 3, 3) := by decide +kernel
theorem dX5_at_23 : decode cX5_at 23 = .ok (.areturn, 1) := by decide +kernel
theorem dX5_isEasyOn_0 : decode cX5_isEasyOn 0 = .ok (.aload_n 0, 1) := by decide +kernel
theorem dX5_isEasyOn_1 : decode cX5_isEasyOn 1 = .ok (.getfield 61, 3) := by decide +kernel
theorem dX5_isEasyOn_4 : decode cX5_isEasyOn 4 = .ok (.iload_n 1, 1) := by decide +kernel
theorem dX5_isEasyOn_5 : decode cX5_isEasyOn 5 = .ok (.ishr, 1) := by decide +kernel
theorem dX5_isEasyOn_6 : decode cX5_isEasyOn 6 = .ok (.iconst 1, 1) := by decide +kernel
theorem dX5_isEasyOn_7 : decode cX5_isEasyOn 7 = .ok (.iand, 1) := by decide +kernel
theorem dX5_isEasyOn_8 : decode cX5_isEasyOn 8 = .ok (.iconst 1, 1) := by decide +kernel
theorem dX5_isEasyOn_9 : decode cX5_isEasyOn 9 = .ok (.if_icmp .ne 7, 3) := by decide +kernel
theorem dX5_isEasyOn_12 : decode cX5_isEasyOn 12 = .ok (.iconst 1, 1) := by decide +kernel
theorem dX5_isEasyOn_13 : decode cX5_isEasyOn 13 = .ok (.goto 4, 3) := by decide +kernel
theorem dX5_isEasyOn_16 : decode cX5_isEasyOn 16 = .ok (.iconst 0, 1) := by decide +kernel
theorem dX5_isEasyOn_17 : decode cX5_isEasyOn 17 = .ok (.ireturn, 1) := by decide +kernel
theorem dX5_tonesOn_0 : decode cX5_tonesOn 0 = .ok (.aload_n 0, 1) := by decide +kernel
theorem dX5_tonesOn_1 : decode cX5_tonesOn 1 = .ok (.getfield 57, 3) := by decide +kernel
theorem dX5_tonesOn_4 : decode cX5_tonesOn 4 = .ok (.iload_n 1, 1) := by decide +kernel
theorem dX5_tonesOn_5 : decode cX5_tonesOn 5 = .ok (.invokestatic 71, 3) := by decide +kernel
theorem dX5_tonesOn_8 : decode cX5_tonesOn 8 = .ok (.ireturn, 1) := by decide +kernel
theorem dX6_init_0 : decode cX6_init 0 = .ok (.aload_n 0, 1) := by decide +kernel
theorem dX6_init_1 : decode cX6_init 1 = .ok (.invokespecial 3, 3) := by decide +kernel
theorem dX6_init_4 : decode cX6_init 4 = .ok (.aload_n 0, 1) := by decide +kernel
theorem dX6_init_5 : decode cX6_init 5 = .ok (.aload_n 1, 1) := by decide +kernel
theorem dX6_init_6 : decode cX6_init 6 = .ok (.putfield 9, 3) := by decide +kernel
theorem dX6_init_9 : decode cX6_init 9 = .ok (.return_, 1) := by decide +kernel
theorem dX6_root_0 : decode cX6_root 0 = .ok (.aload_n 0, 1) := by decide +kernel
theorem dX6_root_1 : decode cX6_root 1 = .ok (.getfield 15, 3) := by decide +kernel
theorem dX6_root_4 : decode cX6_root 4 = .ok (.ireturn, 1) := by decide +kernel
theorem dX6_quality_0 : decode cX6_quality 0 = .ok (.aload_n 0, 1) := by decide +kernel
theorem dX6_quality_1 : decode cX6_quality 1 = .ok (.getfield 19, 3) := by decide +kernel
theorem dX6_quality_4 : decode cX6_quality 4 = .ok (.ireturn, 1) := by decide +kernel
theorem dX6_bass_0 : decode cX6_bass 0 = .ok (.aload_n 0, 1) := by decide +kernel
theorem dX6_bass_1 : decode cX6_bass 1 = .ok (.getfield 22, 3) := by decide +kernel
theorem dX6_bass_4 : decode cX6_bass 4 = .ok (.ireturn, 1) := by decide +kernel
theorem dX6_readSheet_0 : decode cX6_readSheet 0 = .ok (.aload_n 1, 1) := by decide +kernel
theorem dX6_readSheet_1 : decode cX6_readSheet 1 = .ok (.invokevirtual 25, 3) := by decide +kernel
theorem dX6_readSheet_4 : decode cX6_readSheet 4 = .ok (.iconst 0, 1) := by decide +kernel
theorem dX6_readSheet_5 : decode cX6_readSheet 5 = .ok (.istore_n 2, 1) := by decide +kernel
theorem dX6_readSheet_6 : decode cX6_readSheet 6 = .ok (.iload_n 2, 1) := by decide +kernel
theorem dX6_readSheet_7 : decode cX6_readSheet 7 = .ok (.aload_n 0, 1) := by decide +kernel
theorem dX6_readSheet_8 : decode cX6_readSheet 8 = .ok (.getfield 9, 3) := by decide +kernel
theorem dX6_readSheet_11 : decode cX6_readSheet 11 = .ok (.invokevirtual 30, 3) := by decide +kernel
theorem dX6_readSheet_14 : decode cX6_readSheet 14 = .ok (.if_icmp .ge 129, 3) := by decide +kernel
theorem dX6_readSheet_17 : decode cX6_readSheet 17 = .ok (.aload_n 0, 1) := by decide +kernel
theorem dX6_readSheet_18 : decode cX6_readSheet 18 = .ok (.getfield 9, 3) := by decide +kernel
theorem dX6_readSheet_21 : decode cX6_readSheet 21 = .ok (.iload_n 2, 1) := by decide +kernel
theorem dX6_readSheet_22 : decode cX6_readSheet 22 = .ok (.invokevirtual 36, 3) := by decide +kernel
theorem dX6_readSheet_25 : decode cX6_readSheet 25 = .ok (.istore_n 3, 1) := by decide +kernel
theorem dX6_readSheet_26 : decode cX6_readSheet 26 = .ok (.iload_n 3, 1) := by decide +kernel
theorem dX6_readSheet_27 : decode cX6_readSheet 27 = .ok (.bipush 93, 2) := by decide +kernel
theorem dX6_readSheet_29 : decode cX6_readSheet 29 = .ok (.if_icmp .eq 18, 3) := by decide +kernel
theorem dX6_readSheet_32 : decode cX6_readSheet 32 = .ok (.iload_n 3, 1) := by decide +kernel
theorem dX6_readSheet_33 : decode cX6_readSheet 33 = .ok (.bipush 91, 2) := by decide +kernel
theorem dX6_readSheet_35 : decode cX6_readSheet 35 = .ok (.if_icmp .ne 14, 3) := by decide +kernel
theorem dX6_readSheet_38 : decode cX6_readSheet 38 = .ok (.aload_n 1, 1) := by decide +kernel
theorem dX6_readSheet_39 : decode cX6_readSheet 39 = .ok (.invokevirtual 40, 3) := by decide +kernel
theorem dX6_readSheet_42 : decode cX6_readSheet 42 = .ok (.bipush 40, 2) := by decide +kernel
theorem dX6_readSheet_44 : decode cX6_readSheet 44 = .ok (.if_icmp .lt 5, 3) := by decide +kernel
theorem dX6_readSheet_47 : decode cX6_readSheet 47 = .ok (.iload_n 2, 1) := by decide +kernel
theorem dX6_readSheet_48 : decode cX6_readSheet 48 = .ok (.ireturn, 1) := by decide +kernel
theorem dX6_readSheet_49 : decode cX6_readSheet 49 = .ok (.iload_n 3, 1) := by decide +kernel
theorem dX6_readSheet_50 : decode cX6_readSheet 50 = .ok (.bipush 91, 2) := by decide +kernel
theorem dX6_readSheet_52 : decode cX6_readSheet 52 = .ok (.if_icmp .ne 66, 3) := by decide +kernel
theorem dX6_readSheet_55 : decode cX6_readSheet 55 = .ok (.aload_n 0, 1) := by decide +kernel
theorem dX6_readSheet_56 : decode cX6_readSheet 56 = .ok (.iload_n 2, 1) := by decide +kernel
theorem dX6_readSheet_57 : decode cX6_readSheet 57 = .ok (.iconst 1, 1) := by decide +kernel
theorem dX6_readSheet_58 : decode cX6_readSheet 58 = .ok (.iadd, 1) := by decide +kernel
theorem dX6_readSheet_59 : decode cX6_readSheet 59 = .ok (.invokevirtual 43, 3) := by decide +kernel
theorem dX6_readSheet_62 : decode cX6_readSheet 62 = .ok (.aload_n 0, 1) := by decide +kernel
theorem dX6_readSheet_63 : decode cX6_readSheet 63 = .ok (.getfield 47, 3) := by decide +kernel
theorem dX6_readSheet_66 : decode cX6_readSheet 66 = .ok (.ifCond .eq 19, 3) := by decide +kernel
theorem dX6_readSheet_69 : decode cX6_readSheet 69 = .ok (.aload_n 0, 1) := by decide +kernel
theorem dX6_readSheet_70 : decode cX6_readSheet 70 = .ok (.getfield 9, 3) := by decide +kernel
theorem dX6_readSheet_73 : decode cX6_readSheet 73 = .ok (.aload_n 0, 1) := by decide +kernel
theorem dX6_readSheet_74 : decode cX6_readSheet 74 = .ok (.getfield 51, 3) := by decide +kernel
theorem dX6_readSheet_77 : decode cX6_readSheet 77 = .ok (.invokevirtual 36, 3) := by decide +kernel
theorem dX6_readSheet_80 : decode cX6_readSheet 80 = .ok (.bipush 93, 2) := by decide +kernel
theorem dX6_readSheet_82 : decode cX6_readSheet 82 = .ok (.if_icmp .eq 8, 3) := by decide +kernel
theorem dX6_readSheet_85 : decode cX6_readSheet 85 = .ok (.aload_n 0, 1) := by decide +kernel
theorem dX6_readSheet_86 : decode cX6_readSheet 86 = .ok (.getfield 51, 3) := by decide +kernel
theorem dX6_readSheet_89 : decode cX6_readSheet 89 = .ok (.ireturn, 1) := by decide +kernel
theorem dX6_readSheet_90 : decode cX6_readSheet 90 = .ok (.aload_n 1, 1) := by decide +kernel
theorem dX6_readSheet_91 : decode cX6_readSheet 91 = .ok (.aload_n 0, 1) := by decide +kernel
theorem dX6_readSheet_92 : decode cX6_readSheet 92 = .ok (.getfield 15, 3) := by decide +kernel
theorem dX6_readSheet_95 : decode cX6_readSheet 95 = .ok (.aload_n 0, 1) := by decide +kernel
theorem dX6_readSheet_96 : decode cX6_readSheet 96 = .ok (.getfield 19, 3) := by decide +kernel
theorem dX6_readSheet_99 : decode cX6_readSheet 99 = .ok (.aload_n 0, 1) := by decide +kernel
theorem dX6_readSheet_100 : decode cX6_readSheet 100 = .ok (.getfield 22, 3) := by decide +kernel
theorem dX6_readSheet_103 : decode cX6_readSheet 103 = .ok (.invokevirtual 54, 3) := by decide +kernel
theorem dX6_readSheet_106 : decode cX6_readSheet 106 = .ok (.iload_n 2, 1) := by decide +kernel
theorem dX6_readSheet_107 : decode cX6_readSheet 107 = .ok (.aload_n 0, 1) := by decide +kernel
theorem dX6_readSheet_108 : decode cX6_readSheet 108 = .ok (.getfield 51, 3) := by decide +kernel
theorem dX6_readSheet_111 : decode cX6_readSheet 111 = .ok (.invokestatic 58, 3) := by decide +kernel
theorem dX6_readSheet_114 : decode cX6_readSheet 114 = .ok (.istore_n 2, 1) := by decide +kernel
theorem dX6_readSheet_115 : decode cX6_readSheet 115 = .ok (.goto 22, 3) := by decide +kernel
theorem dX6_readSheet_118 : decode cX6_readSheet 118 = .ok (.iload_n 3, 1) := by decide +kernel
theorem dX6_readSheet_119 : decode cX6_readSheet 119 = .ok (.bipush 47, 2) := by decide +kernel
theorem dX6_readSheet_121 : decode cX6_readSheet 121 = .ok (.if_icmp .ne 10, 3) := by decide +kernel
theorem dX6_readSheet_124 : decode cX6_readSheet 124 = .ok (.aload_n 1, 1) := by decide +kernel
theorem dX6_readSheet_125 : decode cX6_readSheet 125 = .ok (.invokevirtual 64, 3) := by decide +kernel
theorem dX6_readSheet_128 : decode cX6_readSheet 128 = .ok (.goto 9, 3) := by decide +kernel
theorem dX6_readSheet_131 : decode cX6_readSheet 131 = .ok (.aload_n 1, 1) := by decide +kernel
theorem dX6_readSheet_132 : decode cX6_readSheet 132 = .ok (.iload_n 3, 1) := by decide +kernel
theorem dX6_readSheet_133 : decode cX6_readSheet 133 = .ok (.i2c, 1) := by decide +kernel
theorem dX6_readSheet_134 : decode cX6_readSheet 134 = .ok (.invokevirtual 67, 3) := by decide +kernel
theorem dX6_readSheet_137 : decode cX6_readSheet 137 = .ok (.iinc 2 1, 3) := by decide +kernel
theorem dX6_readSheet_140 : decode cX6_readSheet 140 = .ok (.goto (-134), 3) := by decide +kernel
theorem dX6_readSheet_143 : decode cX6_readSheet 143 = .ok (.iconst (-1), 1) := by decide +kernel
theorem dX6_readSheet_144 : decode cX6_readSheet 144 = .ok (.ireturn, 1) := by decide +kernel
theorem dX6_readSingleChord_0 : decode cX6_readSingleChord 0 = .ok (.aload_n 0, 1) := by decide +kernel
theorem dX6_readSingleChord_1 : decode cX6_readSingleChord 1 = .ok (.iconst 0, 1) := by decide +kernel
theorem dX6_readSingleChord_2 : decode cX6_readSingleChord 2 = .ok (.invokevirtual 43, 3) := by decide +kernel
theorem dX6_readSingleChord_5 : decode cX6_readSingleChord 5 = .ok (.aload_n 0, 1) := by decide +kernel
theorem dX6_readSingleChord_6 : decode cX6_readSingleChord 6 = .ok (.getfield 47, 3) := by decide +kernel
theorem dX6_readSingleChord_9 : decode cX6_readSingleChord 9 = .ok (.ifCond .eq 21, 3) := by decide +kernel
theorem dX6_readSingleChord_12 : decode cX6_readSingleChord 12 = .ok (.aload_n 0, 1) := by decide +kernel
theorem dX6_readSingleChord_13 : decode cX6_readSingleChord 13 = .ok (.getfield 51, 3) := by decide +kernel
theorem dX6_readSingleChord_16 : decode cX6_readSingleChord 16 = .ok (.aload_n 0, 1) := by decide +kernel
theorem dX6_readSingleChord_17 : decode cX6_readSingleChord 17 = .ok (.getfield 9, 3) := by decide +kernel
theorem dX6_readSingleChord_20 : decode cX6_readSingleChord 20 = .ok (.invokevirtual 30, 3) := by decide +kernel
theorem dX6_readSingleChord_23 : decode cX6_readSingleChord 23 = .ok (.if_icmp .ne 7, 3) := by decide +kernel
theorem dX6_readSingleChord_26 : decode cX6_readSingleChord 26 = .ok (.iconst (-1), 1) := by decide +kernel
theorem dX6_readSingleChord_27 : decode cX6_readSingleChord 27 = .ok (.goto 7, 3) := by decide +kernel
theorem dX6_readSingleChord_30 : decode cX6_readSingleChord 30 = .ok (.aload_n 0, 1) := by decide +kernel
theorem dX6_readSingleChord_31 : decode cX6_readSingleChord 31 = .ok (.getfield 51, 3) := by decide +kernel
theorem dX6_readSingleChord_34 : decode cX6_readSingleChord 34 = .ok (.ireturn, 1) := by decide +kernel
theorem dX6_readChord_0 : decode cX6_readChord 0 = .ok (.aload_n 0, 1) := by decide +kernel
theorem dX6_readChord_1 : decode cX6_readChord 1 = .ok (.iload_n 1, 1) := by decide +kernel
theorem dX6_readChord_2 : decode cX6_readChord 2 = .ok (.putfield 51, 3) := by decide +kernel
theorem dX6_readChord_5 : decode cX6_readChord 5 = .ok (.aload_n 0, 1) := by decide +kernel
theorem dX6_readChord_6 : decode cX6_readChord 6 = .ok (.bipush 100, 2) := by decide +kernel
theorem dX6_readChord_8 : decode cX6_readChord 8 = .ok (.putfield 22, 3) := by decide +kernel
theorem dX6_readChord_11 : decode cX6_readChord 11 = .ok (.aload_n 0, 1) := by decide +kernel
theorem dX6_readChord_12 : decode cX6_readChord 12 = .ok (.aload_n 0, 1) := by decide +kernel
theorem dX6_readChord_13 : decode cX6_readChord 13 = .ok (.invokevirtual 71, 3) := by decide +kernel
theorem dX6_readChord_16 : decode cX6_readChord 16 = .ok (.putfield 15, 3) := by decide +kernel
theorem dX6_readChord_19 : decode cX6_readChord 19 = .ok (.aload_n 0, 1) := by decide +kernel
theorem dX6_readChord_20 : decode cX6_readChord 20 = .ok (.aload_n 0, 1) := by decide +kernel
theorem dX6_readChord_21 : decode cX6_readChord 21 = .ok (.getfield 15, 3) := by decide +kernel
theorem dX6_readChord_24 : decode cX6_readChord 24 = .ok (.bipush 100, 2) := by decide +kernel
theorem dX6_readChord_26 : decode cX6_readChord 26 = .ok (.if_icmp .eq 14, 3) := by decide +kernel
theorem dX6_readChord_29 : decode cX6_readChord 29 = .ok (.aload_n 0, 1) := by decide +kernel
theorem dX6_readChord_30 : decode cX6_readChord 30 = .ok (.invokevirtual 74, 3) := by decide +kernel
theorem dX6_readChord_33 : decode cX6_readChord 33 = .ok (.ifCond .eq 7, 3) := by decide +kernel
theorem dX6_readChord_36 : decode cX6_readChord 36 = .ok (.iconst 1, 1) := by decide +kernel
theorem dX6_readChord_37 : decode cX6_readChord 37 = .ok (.goto 4, 3) := by decide +kernel
theorem dX6_readChord_40 : decode cX6_readChord 40 = .ok (.iconst 0, 1) := by decide +kernel
theorem dX6_readChord_41 : decode cX6_readChord 41 = .ok (.putfield 47, 3) := by decide +kernel
theorem dX6_readChord_44 : decode cX6_readChord 44 = .ok (.aload_n 0, 1) := by decide +kernel
theorem dX6_readChord_45 : decode cX6_readChord 45 = .ok (.getfield 47, 3) := by decide +kernel
theorem dX6_readChord_48 : decode cX6_readChord 48 = .ok (.ifCond .eq 55, 3) := by decide +kernel
theorem dX6_readChord_51 : decode cX6_readChord 51 = .ok (.aload_n 0, 1) := by decide +kernel
theorem dX6_readChord_52 : decode cX6_readChord 52 = .ok (.getfield 9, 3) := by decide +kernel
theorem dX6_readChord_55 : decode cX6_readChord 55 = .ok (.aload_n 0, 1) := by decide +kernel
theorem dX6_readChord_56 : decode cX6_readChord 56 = .ok (.getfield 51, 3) := by decide +kernel
theorem dX6_readChord_59 : decode cX6_readChord 59 = .ok (.invokevirtual 36, 3) := by decide +kernel
theorem dX6_readChord_62 : decode cX6_readChord 62 = .ok (.bipush 47, 2) := by decide +kernel
theorem dX6_readChord_64 : decode cX6_readChord 64 = .ok (.if_icmp .ne 39, 3) := by decide +kernel
theorem dX6_readChord_67 : decode cX6_readChord 67 = .ok (.aload_n 0, 1) := by decide +kernel
theorem dX6_readChord_68 : decode cX6_readChord 68 = .ok (.dup, 1) := by decide +kernel
theorem dX6_readChord_69 : decode cX6_readChord 69 = .ok (.getfield 51, 3) := by decide +kernel
theorem dX6_readChord_72 : decode cX6_readChord 72 = .ok (.iconst 1, 1) := by decide +kernel
theorem dX6_readChord_73 : decode cX6_readChord 73 = .ok (.iadd, 1) := by decide +kernel
theorem dX6_readChord_74 : decode cX6_readChord 74 = .ok (.putfield 51, 3) := by decide +kernel
theorem dX6_readChord_77 : decode cX6_readChord 77 = .ok (.aload_n 0, 1) := by decide +kernel
theorem dX6_readChord_78 : decode cX6_readChord 78 = .ok (.aload_n 0, 1) := by decide +kernel
theorem dX6_readChord_79 : decode cX6_readChord 79 = .ok (.invokevirtual 71, 3) := by decide +kernel
theorem dX6_readChord_82 : decode cX6_readChord 82 = .ok (.putfield 22, 3) := by decide +kernel
theorem dX6_readChord_85 : decode cX6_readChord 85 = .ok (.aload_n 0, 1) := by decide +kernel
theorem dX6_readChord_86 : decode cX6_readChord 86 = .ok (.aload_n 0, 1) := by decide +kernel
theorem dX6_readChord_87 : decode cX6_readChord 87 = .ok (.getfield 22, 3) := by decide +kernel
theorem dX6_readChord_90 : decode cX6_readChord 90 = .ok (.bipush 100, 2) := by decide +kernel
theorem dX6_readChord_92 : decode cX6_readChord 92 = .ok (.if_icmp .eq 7, 3) := by decide +kernel
theorem dX6_readChord_95 : decode cX6_readChord 95 = .ok (.iconst 1, 1) := by decide +kernel
theorem dX6_readChord_96 : decode cX6_readChord 96 = .ok (.goto 4, 3) := by decide +kernel
theorem dX6_readChord_99 : decode cX6_readChord 99 = .ok (.iconst 0, 1) := by decide +kernel
theorem dX6_readChord_100 : decode cX6_readChord 100 = .ok (.putfield 47, 3) := by decide +kernel
theorem dX6_readChord_103 : decode cX6_readChord 103 = .ok (.return_, 1) := by decide +kernel
theorem dX6_readNote_0 : decode cX6_readNote 0 = .ok (.aload_n 0, 1) := by decide +kernel
theorem dX6_readNote_1 : decode cX6_readNote 1 = .ok (.getfield 9, 3) := by decide +kernel
theorem dX6_readNote_4 : decode cX6_readNote 4 = .ok (.aload_n 0, 1) := by decide +kernel
theorem dX6_readNote_5 : decode cX6_readNote 5 = .ok (.getfield 51, 3) := by decide +kernel
theorem dX6_readNote_8 : decode cX6_readNote 8 = .ok (.invokevirtual 36, 3) := by decide +kernel
theorem dX6_readNote_11 : decode cX6_readNote 11 = .ok (.invokestatic 78, 3) := by decide +kernel
theorem dX6_readNote_14 : decode cX6_readNote 14 = .ok (.istore_n 1, 1) := by decide +kernel
theorem dX6_readNote_15 : decode cX6_readNote 15 = .ok (.iload_n 1, 1) := by decide +kernel
theorem dX6_readNote_16 : decode cX6_readNote 16 = .ok (.bipush 100, 2) := by decide +kernel
theorem dX6_readNote_18 : decode cX6_readNote 18 = .ok (.if_icmp .ne 6, 3) := by decide +kernel
theorem dX6_readNote_21 : decode cX6_readNote 21 = .ok (.bipush 100, 2) := by decide +kernel
theorem dX6_readNote_23 : decode cX6_readNote 23 = .ok (.ireturn, 1) := by decide +kernel
theorem dX6_readNote_24 : decode cX6_readNote 24 = .ok (.aload_n 0, 1) := by decide +kernel
theorem dX6_readNote_25 : decode cX6_readNote 25 = .ok (.dup, 1) := by decide +kernel
theorem dX6_readNote_26 : decode cX6_readNote 26 = .ok (.getfield 51, 3) := by decide +kernel
theorem dX6_readNote_29 : decode cX6_readNote 29 = .ok (.iconst 1, 1) := by decide +kernel
theorem dX6_readNote_30 : decode cX6_readNote 30 = .ok (.iadd, 1) := by decide +kernel
theorem dX6_readNote_31 : decode cX6_readNote 31 = .ok (.putfield 51, 3) := by decide +kernel
theorem dX6_readNote_34 : decode cX6_readNote 34 = .ok (.aload_n 0, 1) := by decide +kernel
theorem dX6_readNote_35 : decode cX6_readNote 35 = .ok (.getfield 9, 3) := by decide +kernel
theorem dX6_readNote_38 : decode cX6_readNote 38 = .ok (.aload_n 0, 1) := by decide +kernel
theorem dX6_readNote_39 : decode cX6_readNote 39 = .ok (.getfield 51, 3) := by decide +kernel
theorem dX6_readNote_42 : decode cX6_readNote 42 = .ok (.invokevirtual 36, 3) := by decide +kernel
theorem dX6_readNote_45 : decode cX6_readNote 45 = .ok (.istore_n 2, 1) := by decide +kernel
theorem dX6_readNote_46 : decode cX6_readNote 46 = .ok (.iload_n 2, 1) := by decide +kernel
theorem dX6_readNote_47 : decode cX6_readNote 47 = .ok (.bipush 35, 2) := by decide +kernel
theorem dX6_readNote_49 : decode cX6_readNote 49 = .ok (.if_icmp .eq 11, 3) := by decide +kernel
theorem dX6_readNote_52 : decode cX6_readNote 52 = .ok (.iload_n 2, 1) := by decide +kernel
theorem dX6_readNote_53 : decode cX6_readNote 53 = .ok (.bipush 98, 2) := by decide +kernel
theorem dX6_readNote_55 : decode cX6_readNote 55 = .ok (.if_icmp .eq 5, 3) := by decide +kernel
theorem dX6_readNote_58 : decode cX6_readNote 58 = .ok (.iload_n 1, 1) := by decide +kernel
theorem dX6_readNote_59 : decode cX6_readNote 59 = .ok (.ireturn, 1) := by decide +kernel
theorem dX6_readNote_60 : decode cX6_readNote 60 = .ok (.aload_n 0, 1) := by decide +kernel
theorem dX6_readNote_61 : decode cX6_readNote 61 = .ok (.dup, 1) := by decide +kernel
theorem dX6_readNote_62 : decode cX6_readNote 62 = .ok (.getfield 51, 3) := by decide +kernel
theorem dX6_readNote_65 : decode cX6_readNote 65 = .ok (.iconst 1, 1) := by decide +kernel
theorem dX6_readNote_66 : decode cX6_readNote 66 = .ok (.iadd, 1) := by decide +kernel
theorem dX6_readNote_67 : decode cX6_readNote 67 = .ok (.putfield 51, 3) := by decide +kernel
theorem dX6_readNote_70 : decode cX6_readNote 70 = .ok (.iload_n 2, 1) := by decide +kernel
theorem dX6_readNote_71 : decode cX6_readNote 71 = .ok (.bipush 35, 2) := by decide +kernel
theorem dX6_readNote_73 : decode cX6_readNote 73 = .ok (.if_icmp .ne 10, 3) := by decide +kernel
theorem dX6_readNote_76 : decode cX6_readNote 76 = .ok (.iload_n 1, 1) := by decide +kernel
theorem dX6_readNote_77 : decode cX6_readNote 77 = .ok (.bipush 7, 2) := by decide +kernel
theorem dX6_readNote_79 : decode cX6_readNote 79 = .ok (.iadd, 1) := by decide +kernel
theorem dX6_readNote_80 : decode cX6_readNote 80 = .ok (.goto 7, 3) := by decide +kernel
theorem dX6_readNote_83 : decode cX6_readNote 83 = .ok (.iload_n 1, 1) := by decide +kernel
theorem dX6_readNote_84 : decode cX6_readNote 84 = .ok (.bipush 7, 2) := by decide +kernel
theorem dX6_readNote_86 : decode cX6_readNote 86 = .ok (.isub, 1) := by decide +kernel
theorem dX6_readNote_87 : decode cX6_readNote 87 = .ok (.ireturn, 1) := by decide +kernel
theorem dX6_readQuality_0 : decode cX6_readQuality 0 = .ok (.iconst (-1), 1) := by decide +kernel
theorem dX6_readQuality_1 : decode cX6_readQuality 1 = .ok (.istore_n 1, 1) := by decide +kernel
theorem dX6_readQuality_2 : decode cX6_readQuality 2 = .ok (.iconst 0, 1) := by decide +kernel
theorem dX6_readQuality_3 : decode cX6_readQuality 3 = .ok (.istore_n 2, 1) := by decide +kernel
theorem dX6_readQuality_4 : decode cX6_readQuality 4 = .ok (.iconst 0, 1) := by decide +kernel
theorem dX6_readQuality_5 : decode cX6_readQuality 5 = .ok (.istore_n 3, 1) := by decide +kernel
theorem dX6_readQuality_6 : decode cX6_readQuality 6 = .ok (.iload_n 3, 1) := by decide +kernel
theorem dX6_readQuality_7 : decode cX6_readQuality 7 = .ok (.invokestatic 83, 3) := by decide +kernel
theorem dX6_readQuality_10 : decode cX6_readQuality 10 = .ok (.if_icmp .ge 60, 3) := by decide +kernel
theorem dX6_readQuality_13 : decode cX6_readQuality 13 = .ok (.iload_n 3, 1) := by decide +kernel
theorem dX6_readQuality_14 : decode cX6_readQuality 14 = .ok (.invokestatic 88, 3) := by decide +kernel
theorem dX6_readQuality_17 : decode cX6_readQuality 17 = .ok (.getfield 91, 3) := by decide +kernel
theorem dX6_readQuality_20 : decode cX6_readQuality 20 = .ok (.astore 4, 2) := by decide +kernel
theorem dX6_readQuality_22 : decode cX6_readQuality 22 = .ok (.aload_n 0, 1) := by decide +kernel
theorem dX6_readQuality_23 : decode cX6_readQuality 23 = .ok (.aload 4, 2) := by decide +kernel
theorem dX6_readQuality_25 : decode cX6_readQuality 25 = .ok (.invokevirtual 95, 3) := by decide +kernel
theorem dX6_readQuality_28 : decode cX6_readQuality 28 = .ok (.istore 5, 2) := by decide +kernel
theorem dX6_readQuality_30 : decode cX6_readQuality 30 = .ok (.iload 5, 2) := by decide +kernel
theorem dX6_readQuality_32 : decode cX6_readQuality 32 = .ok (.iload_n 1, 1) := by decide +kernel
theorem dX6_readQuality_33 : decode cX6_readQuality 33 = .ok (.if_icmp .le 8, 3) := by decide +kernel
theorem dX6_readQuality_36 : decode cX6_readQuality 36 = .ok (.iload 5, 2) := by decide +kernel
theorem dX6_readQuality_38 : decode cX6_readQuality 38 = .ok (.istore_n 1, 1) := by decide +kernel
theorem dX6_readQuality_39 : decode cX6_readQuality 39 = .ok (.iconst 0, 1) := by decide +kernel
theorem dX6_readQuality_40 : decode cX6_readQuality 40 = .ok (.istore_n 2, 1) := by decide +kernel
theorem dX6_readQuality_41 : decode cX6_readQuality 41 = .ok (.iload 5, 2) := by decide +kernel
theorem dX6_readQuality_43 : decode cX6_readQuality 43 = .ok (.iload_n 1, 1) := by decide +kernel
theorem dX6_readQuality_44 : decode cX6_readQuality 44 = .ok (.if_icmp .ne 20, 3) := by decide +kernel
theorem dX6_readQuality_47 : decode cX6_readQuality 47 = .ok (.iload 5, 2) := by decide +kernel
theorem dX6_readQuality_49 : decode cX6_readQuality 49 = .ok (.aload 4, 2) := by decide +kernel
theorem dX6_readQuality_51 : decode cX6_readQuality 51 = .ok (.invokevirtual 99, 3) := by decide +kernel
theorem dX6_readQuality_54 : decode cX6_readQuality 54 = .ok (.if_icmp .ne 10, 3) := by decide +kernel
theorem dX6_readQuality_57 : decode cX6_readQuality 57 = .ok (.aload_n 0, 1) := by decide +kernel
theorem dX6_readQuality_58 : decode cX6_readQuality 58 = .ok (.iload_n 3, 1) := by decide +kernel
theorem dX6_readQuality_59 : decode cX6_readQuality 59 = .ok (.putfield 19, 3) := by decide +kernel
theorem dX6_readQuality_62 : decode cX6_readQuality 62 = .ok (.iconst 1, 1) := by decide +kernel
theorem dX6_readQuality_63 : decode cX6_readQuality 63 = .ok (.istore_n 2, 1) := by decide +kernel
theorem dX6_readQuality_64 : decode cX6_readQuality 64 = .ok (.iinc 3 1, 3) := by decide +kernel
theorem dX6_readQuality_67 : decode cX6_readQuality 67 = .ok (.goto (-61), 3) := by decide +kernel
theorem dX6_readQuality_70 : decode cX6_readQuality 70 = .ok (.aload_n 0, 1) := by decide +kernel
theorem dX6_readQuality_71 : decode cX6_readQuality 71 = .ok (.dup, 1) := by decide +kernel
theorem dX6_readQuality_72 : decode cX6_readQuality 72 = .ok (.getfield 51, 3) := by decide +kernel
theorem dX6_readQuality_75 : decode cX6_readQuality 75 = .ok (.iload_n 1, 1) := by decide +kernel
theorem dX6_readQuality_76 : decode cX6_readQuality 76 = .ok (.iadd, 1) := by decide +kernel
theorem dX6_readQuality_77 : decode cX6_readQuality 77 = .ok (.putfield 51, 3) := by decide +kernel
theorem dX6_readQuality_80 : decode cX6_readQuality 80 = .ok (.iload_n 2, 1) := by decide +kernel
theorem dX6_readQuality_81 : decode cX6_readQuality 81 = .ok (.ireturn, 1) := by decide +kernel
theorem dX6_sharedLength_0 : decode cX6_sharedLength 0 = .ok (.iconst 0, 1) := by decide +kernel
theorem dX6_sharedLength_1 : decode cX6_sharedLength 1 = .ok (.istore_n 2, 1) := by decide +kernel
theorem dX6_sharedLength_2 : decode cX6_sharedLength 2 = .ok (.iload_n 2, 1) := by decide +kernel
theorem dX6_sharedLength_3 : decode cX6_sharedLength 3 = .ok (.aload_n 1, 1) := by decide +kernel
theorem dX6_sharedLength_4 : decode cX6_sharedLength 4 = .ok (.invokevirtual 99, 3) := by decide +kernel
theorem dX6_sharedLength_7 : decode cX6_sharedLength 7 = .ok (.if_icmp .ge 30, 3) := by decide +kernel
theorem dX6_sharedLength_10 : decode cX6_sharedLength 10 = .ok (.aload_n 0, 1) := by decide +kernel
theorem dX6_sharedLength_11 : decode cX6_sharedLength 11 = .ok (.getfield 9, 3) := by decide +kernel
theorem dX6_sharedLength_14 : decode cX6_sharedLength 14 = .ok (.aload_n 0, 1) := by decide +kernel
theorem dX6_sharedLength_15 : decode cX6_sharedLength 15 = .ok (.getfield 51, 3) := by decide +kernel
theorem dX6_sharedLength_18 : decode cX6_sharedLength 18 = .ok (.iload_n 2, 1) := by decide +kernel
theorem dX6_sharedLength_19 : decode cX6_sharedLength 19 = .ok (.iadd, 1) := by decide +kernel
theorem dX6_sharedLength_20 : decode cX6_sharedLength 20 = .ok (.invokevirtual 36, 3) := by decide +kernel
theorem dX6_sharedLength_23 : decode cX6_sharedLength 23 = .ok (.aload_n 1, 1) := by decide +kernel
theorem dX6_sharedLength_24 : decode cX6_sharedLength 24 = .ok (.iload_n 2, 1) := by decide +kernel
theorem dX6_sharedLength_25 : decode cX6_sharedLength 25 = .ok (.invokevirtual 104, 3) := by decide +kernel
theorem dX6_sharedLength_28 : decode cX6_sharedLength 28 = .ok (.if_icmp .ne 9, 3) := by decide +kernel
theorem dX6_sharedLength_31 : decode cX6_sharedLength 31 = .ok (.iinc 2 1, 3) := by decide +kernel
theorem dX6_sharedLength_34 : decode cX6_sharedLength 34 = .ok (.goto (-32), 3) := by decide +kernel
theorem dX6_sharedLength_37 : decode cX6_sharedLength 37 = .ok (.iload_n 2, 1) := by decide +kernel
theorem dX6_sharedLength_38 : decode cX6_sharedLength 38 = .ok (.ireturn, 1) := by decide +kernel
theorem dX7_init_0 : decode cX7_init 0 = .ok (.aload_n 0, 1) := by decide +kernel
theorem dX7_init_1 : decode cX7_init 1 = .ok (.invokespecial 3, 3) := by decide +kernel
theorem dX7_init_4 : decode cX7_init 4 = .ok (.aload_n 0, 1) := by decide +kernel
theorem dX7_init_5 : decode cX7_init 5 = .ok (.sipush 680, 3) := by decide +kernel
theorem dX7_init_8 : decode cX7_init 8 = .ok (.newarray .char, 2) := by decide +kernel
theorem dX7_init_10 : decode cX7_init 10 = .ok (.putfield 11, 3) := by decide +kernel
theorem dX7_init_13 : decode cX7_init 13 = .ok (.return_, 1) := by decide +kernel
theorem dX7_size_0 : decode cX7_size 0 = .ok (.aload_n 0, 1) := by decide +kernel
theorem dX7_size_1 : decode cX7_size 1 = .ok (.getfield 15, 3) := by decide +kernel
theorem dX7_size_4 : decode cX7_size 4 = .ok (.ireturn, 1) := by decide +kernel
theorem dX7_at_0 : decode cX7_at 0 = .ok (.iload_n 1, 1) := by decide +kernel
theorem dX7_at_1 : decode cX7_at 1 = .ok (.ifCond .lt 29, 3) := by decide +kernel
theorem dX7_at_4 : decode cX7_at 4 = .ok (.iload_n 1, 1) := by decide +kernel
theorem dX7_at_5 : decode cX7_at 5 = .ok (.aload_n 0, 1) := by decide +kernel
theorem dX7_at_6 : decode cX7_at 6 = .ok (.getfield 15, 3) := by decide +kernel
theorem dX7_at_9 : decode cX7_at 9 = .ok (.if_icmp .ge 21, 3) := by decide +kernel
theorem dX7_at_12 : decode cX7_at 12 = .ok (.iload_n 1, 1) := by decide +kernel
theorem dX7_at_13 : decode cX7_at 13 = .ok (.aload_n 0, 1) := by decide +kernel
theorem dX7_at_14 : decode cX7_at 14 = .ok (.getfield 11, 3) := by decide +kernel
theorem dX7_at_17 : decode cX7_at 17 = .ok (.arraylength, 1) := by decide +kernel
theorem dX7_at_18 : decode cX7_at 18 = .ok (.if_icmp .ge 12, 3) := by decide +kernel
theorem dX7_at_21 : decode cX7_at 21 = .ok (.aload_n 0, 1) := by decide +kernel
theorem dX7_at_22 : decode cX7_at 22 = .ok (.getfield 11, 3) := by decide +kernel
theorem dX7_at_25 : decode cX7_at 25 = .ok (.iload_n 1, 1) := by decide +kernel
theorem dX7_at_26 : decode cX7_at 26 = .ok (.caload, 1) := by decide +kernel
theorem dX7_at_27 : decode cX7_at 27 = .ok (.goto 4, 3) := by decide +kernel
theorem dX7_at_30 : decode cX7_at 30 = .ok (.iconst (-1), 1) := by decide +kernel
theorem dX7_at_31 : decode cX7_at 31 = .ok (.ireturn, 1) := by decide +kernel
theorem dX7_add_0 : decode cX7_add 0 = .ok (.aload_n 0, 1) := by decide +kernel
theorem dX7_add_1 : decode cX7_add 1 = .ok (.getfield 15, 3) := by decide +kernel
theorem dX7_add_4 : decode cX7_add 4 = .ok (.ifCond .lt 35, 3) := by decide +kernel
theorem dX7_add_7 : decode cX7_add 7 = .ok (.aload_n 0, 1) := by decide +kernel
theorem dX7_add_8 : decode cX7_add 8 = .ok (.getfield 15, 3) := by decide +kernel
theorem dX7_add_11 : decode cX7_add 11 = .ok (.aload_n 0, 1) := by decide +kernel
theorem dX7_add_12 : decode cX7_add 12 = .ok (.getfield 11, 3) := by decide +kernel
theorem dX7_add_15 : decode cX7_add 15 = .ok (.arraylength, 1) := by decide +kernel
theorem dX7_add_16 : decode cX7_add 16 = .ok (.if_icmp .ge 23, 3) := by decide +kernel
theorem dX7_add_19 : decode cX7_add 19 = .ok (.aload_n 0, 1) := by decide +kernel
theorem dX7_add_20 : decode cX7_add 20 = .ok (.getfield 11, 3) := by decide +kernel
theorem dX7_add_23 : decode cX7_add 23 = .ok (.aload_n 0, 1) := by decide +kernel
theorem dX7_add_24 : decode cX7_add 24 = .ok (.getfield 15, 3) := by decide +kernel
theorem dX7_add_27 : decode cX7_add 27 = .ok (.iload_n 1, 1) := by decide +kernel
theorem dX7_add_28 : decode cX7_add 28 = .ok (.castore, 1) := by decide +kernel
theorem dX7_add_29 : decode cX7_add 29 = .ok (.aload_n 0, 1) := by decide +kernel
theorem dX7_add_30 : decode cX7_add 30 = .ok (.dup, 1) := by decide +kernel
theorem dX7_add_31 : decode cX7_add 31 = .ok (.getfield 15, 3) := by decide +kernel
theorem dX7_add_34 : decode cX7_add 34 = .ok (.iconst 1, 1) := by decide +kernel
theorem dX7_add_35 : decode cX7_add 35 = .ok (.iadd, 1) := by decide +kernel
theorem dX7_add_36 : decode cX7_add 36 = .ok (.putfield 15, 3) := by decide +kernel
theorem dX7_add_39 : decode cX7_add 39 = .ok (.return_, 1) := by decide +kernel
theorem dX7_addAll_0 : decode cX7_addAll 0 = .ok (.iconst 0, 1) := by decide +kernel
theorem dX7_addAll_1 : decode cX7_addAll 1 = .ok (.istore_n 2, 1) := by decide +kernel
theorem dX7_addAll_2 : decode cX7_addAll 2 = .ok (.iload_n 2, 1) := by decide +kernel
theorem dX7_addAll_3 : decode cX7_addAll 3 = .ok (.aload_n 1, 1) := by decide +kernel
theorem dX7_addAll_4 : decode cX7_addAll 4 = .ok (.invokevirtual 19, 3) := by decide +kernel
theorem dX7_addAll_7 : decode cX7_addAll 7 = .ok (.if_icmp .ge 18, 3) := by decide +kernel
theorem dX7_addAll_10 : decode cX7_addAll 10 = .ok (.aload_n 0, 1) := by decide +kernel
theorem dX7_addAll_11 : decode cX7_addAll 11 = .ok (.aload_n 1, 1) := by decide +kernel
theorem dX7_addAll_12 : decode cX7_addAll 12 = .ok (.iload_n 2, 1) := by decide +kernel
theorem dX7_addAll_13 : decode cX7_addAll 13 = .ok (.invokevirtual 25, 3) := by decide +kernel
theorem dX7_addAll_16 : decode cX7_addAll 16 = .ok (.invokevirtual 29, 3) := by decide +kernel
theorem dX7_addAll_19 : decode cX7_addAll 19 = .ok (.iinc 2 1, 3) := by decide +kernel
theorem dX7_addAll_22 : decode cX7_addAll 22 = .ok (.goto (-20), 3) := by decide +kernel
theorem dX7_addAll_25 : decode cX7_addAll 25 = .ok (.return_, 1) := by decide +kernel
theorem dX7_fillTo_0 : decode cX7_fillTo 0 = .ok (.aload_n 0, 1) := by decide +kernel
theorem dX7_fillTo_1 : decode cX7_fillTo 1 = .ok (.getfield 15, 3) := by decide +kernel
theorem dX7_fillTo_4 : decode cX7_fillTo 4 = .ok (.istore_n 3, 1) := by decide +kernel
theorem dX7_fillTo_5 : decode cX7_fillTo 5 = .ok (.iload_n 3, 1) := by decide +kernel
theorem dX7_fillTo_6 : decode cX7_fillTo 6 = .ok (.iload_n 1, 1) := by decide +kernel
theorem dX7_fillTo_7 : decode cX7_fillTo 7 = .ok (.if_icmp .ge 14, 3) := by decide +kernel
theorem dX7_fillTo_10 : decode cX7_fillTo 10 = .ok (.aload_n 0, 1) := by decide +kernel
theorem dX7_fillTo_11 : decode cX7_fillTo 11 = .ok (.iload_n 2, 1) := by decide +kernel
theorem dX7_fillTo_12 : decode cX7_fillTo 12 = .ok (.invokevirtual 29, 3) := by decide +kernel
theorem dX7_fillTo_15 : decode cX7_fillTo 15 = .ok (.iinc 3 1, 3) := by decide +kernel
theorem dX7_fillTo_18 : decode cX7_fillTo 18 = .ok (.goto (-13), 3) := by decide +kernel
theorem dX7_fillTo_21 : decode cX7_fillTo 21 = .ok (.return_, 1) := by decide +kernel
theorem dX7_cutTo_0 : decode cX7_cutTo 0 = .ok (.iload_n 1, 1) := by decide +kernel
theorem dX7_cutTo_1 : decode cX7_cutTo 1 = .ok (.ifCond .lt 16, 3) := by decide +kernel
theorem dX7_cutTo_4 : decode cX7_cutTo 4 = .ok (.iload_n 1, 1) := by decide +kernel
theorem dX7_cutTo_5 : decode cX7_cutTo 5 = .ok (.aload_n 0, 1) := by decide +kernel
theorem dX7_cutTo_6 : decode cX7_cutTo 6 = .ok (.getfield 15, 3) := by decide +kernel
theorem dX7_cutTo_9 : decode cX7_cutTo 9 = .ok (.if_icmp .ge 8, 3) := by decide +kernel
theorem dX7_cutTo_12 : decode cX7_cutTo 12 = .ok (.aload_n 0, 1) := by decide +kernel
theorem dX7_cutTo_13 : decode cX7_cutTo 13 = .ok (.iload_n 1, 1) := by decide +kernel
theorem dX7_cutTo_14 : decode cX7_cutTo 14 = .ok (.putfield 15, 3) := by decide +kernel
theorem dX7_cutTo_17 : decode cX7_cutTo 17 = .ok (.return_, 1) := by decide +kernel
theorem dX8_init_0 : decode cX8_init 0 = .ok (.aload_n 0, 1) := by decide +kernel
theorem dX8_init_1 : decode cX8_init 1 = .ok (.invokespecial 3, 3) := by decide +kernel
theorem dX8_init_4 : decode cX8_init 4 = .ok (.aload_n 0, 1) := by decide +kernel
theorem dX8_init_5 : decode cX8_init 5 = .ok (.sipush 200, 3) := by decide +kernel
theorem dX8_init_8 : decode cX8_init 8 = .ok (.newarray .char, 2) := by decide +kernel
theorem dX8_init_10 : decode cX8_init 10 = .ok (.putfield 9, 3) := by decide +kernel
theorem dX8_init_13 : decode cX8_init 13 = .ok (.aload_n 0, 1) := by decide +kernel
theorem dX8_init_14 : decode cX8_init 14 = .ok (.sipush 202, 3) := by decide +kernel
theorem dX8_init_17 : decode cX8_init 17 = .ok (.newarray .int, 2) := by decide +kernel
theorem dX8_init_19 : decode cX8_init 19 = .ok (.putfield 15, 3) := by decide +kernel
theorem dX8_init_22 : decode cX8_init 22 = .ok (.aload_n 0, 1) := by decide +kernel
theorem dX8_init_23 : decode cX8_init 23 = .ok (.iconst 1, 1) := by decide +kernel
theorem dX8_init_24 : decode cX8_init 24 = .ok (.putfield 19, 3) := by decide +kernel
theorem dX8_init_27 : decode cX8_init 27 = .ok (.aload_n 0, 1) := by decide +kernel
theorem dX8_init_28 : decode cX8_init 28 = .ok (.sipush 200, 3) := by decide +kernel
theorem dX8_init_31 : decode cX8_init 31 = .ok (.newarray .int, 2) := by decide +kernel
theorem dX8_init_33 : decode cX8_init 33 = .ok (.putfield 23, 3) := by decide +kernel
theorem dX8_init_36 : decode cX8_init 36 = .ok (.return_, 1) := by decide +kernel
theorem dX8_copyFrom_0 : decode cX8_copyFrom 0 = .ok (.aload_n 1, 1) := by decide +kernel
theorem dX8_copyFrom_1 : decode cX8_copyFrom 1 = .ok (.getfield 9, 3) := by decide +kernel
theorem dX8_copyFrom_4 : decode cX8_copyFrom 4 = .ok (.iconst 0, 1) := by decide +kernel
theorem dX8_copyFrom_5 : decode cX8_copyFrom 5 = .ok (.aload_n 0, 1) := by decide +kernel
theorem dX8_copyFrom_6 : decode cX8_copyFrom 6 = .ok (.getfield 9, 3) := by decide +kernel
theorem dX8_copyFrom_9 : decode cX8_copyFrom 9 = .ok (.iconst 0, 1) := by decide +kernel
theorem dX8_copyFrom_10 : decode cX8_copyFrom 10 = .ok (.sipush 200, 3) := by decide +kernel
theorem dX8_copyFrom_13 : decode cX8_copyFrom 13 = .ok (.invokestatic 26, 3) := by decide +kernel
theorem dX8_copyFrom_16 : decode cX8_copyFrom 16 = .ok (.aload_n 1, 1) := by decide +kernel
theorem dX8_copyFrom_17 : decode cX8_copyFrom 17 = .ok (.getfield 15, 3) := by decide +kernel
theorem dX8_copyFrom_20 : decode cX8_copyFrom 20 = .ok (.iconst 0, 1) := by decide +kernel
theorem dX8_copyFrom_21 : decode cX8_copyFrom 21 = .ok (.aload_n 0, 1) := by decide +kernel
theorem dX8_copyFrom_22 : decode cX8_copyFrom 22 = .ok (.getfield 15, 3) := by decide +kernel
theorem dX8_copyFrom_25 : decode cX8_copyFrom 25 = .ok (.iconst 0, 1) := by decide +kernel
theorem dX8_copyFrom_26 : decode cX8_copyFrom 26 = .ok (.sipush 202, 3) := by decide +kernel
theorem dX8_copyFrom_29 : decode cX8_copyFrom 29 = .ok (.invokestatic 26, 3) := by decide +kernel
theorem dX8_copyFrom_32 : decode cX8_copyFrom 32 = .ok (.aload_n 1, 1) := by decide +kernel
theorem dX8_copyFrom_33 : decode cX8_copyFrom 33 = .ok (.getfield 23, 3) := by decide +kernel
theorem dX8_copyFrom_36 : decode cX8_copyFrom 36 = .ok (.iconst 0, 1) := by decide +kernel
theorem dX8_copyFrom_37 : decode cX8_copyFrom 37 = .ok (.aload_n 0, 1) := by decide +kernel
theorem dX8_copyFrom_38 : decode cX8_copyFrom 38 = .ok (.getfield 23, 3) := by decide +kernel
theorem dX8_copyFrom_41 : decode cX8_copyFrom 41 = .ok (.iconst 0, 1) := by decide +kernel
theorem dX8_copyFrom_42 : decode cX8_copyFrom 42 = .ok (.sipush 200, 3) := by decide +kernel
theorem dX8_copyFrom_45 : decode cX8_copyFrom 45 = .ok (.invokestatic 26, 3) := by decide +kernel
theorem dX8_copyFrom_48 : decode cX8_copyFrom 48 = .ok (.aload_n 0, 1) := by decide +kernel
theorem dX8_copyFrom_49 : decode cX8_copyFrom 49 = .ok (.aload_n 1, 1) := by decide +kernel
theorem dX8_copyFrom_50 : decode cX8_copyFrom 50 = .ok (.getfield 19, 3) := by decide +kernel
theorem dX8_copyFrom_53 : decode cX8_copyFrom 53 = .ok (.putfield 19, 3) := by decide +kernel
theorem dX8_copyFrom_56 : decode cX8_copyFrom 56 = .ok (.aload_n 0, 1) := by decide +kernel
theorem dX8_copyFrom_57 : decode cX8_copyFrom 57 = .ok (.aload_n 1, 1) := by decide +kernel
theorem dX8_copyFrom_58 : decode cX8_copyFrom 58 = .ok (.getfield 32, 3) := by decide +kernel
theorem dX8_copyFrom_61 : decode cX8_copyFrom 61 = .ok (.putfield 32, 3) := by decide +kernel
theorem dX8_copyFrom_64 : decode cX8_copyFrom 64 = .ok (.aload_n 0, 1) := by decide +kernel
theorem dX8_copyFrom_65 : decode cX8_copyFrom 65 = .ok (.aload_n 1, 1) := by decide +kernel
theorem dX8_copyFrom_66 : decode cX8_copyFrom 66 = .ok (.getfield 35, 3) := by decide +kernel
theorem dX8_copyFrom_69 : decode cX8_copyFrom 69 = .ok (.putfield 35, 3) := by decide +kernel
theorem dX8_copyFrom_72 : decode cX8_copyFrom 72 = .ok (.aload_n 0, 1) := by decide +kernel
theorem dX8_copyFrom_73 : decode cX8_copyFrom 73 = .ok (.aload_n 1, 1) := by decide +kernel
theorem dX8_copyFrom_74 : decode cX8_copyFrom 74 = .ok (.getfield 38, 3) := by decide +kernel
theorem dX8_copyFrom_77 : decode cX8_copyFrom 77 = .ok (.putfield 38, 3) := by decide +kernel
theorem dX8_copyFrom_80 : decode cX8_copyFrom 80 = .ok (.return_, 1) := by decide +kernel
theorem dX8_clear_0 : decode cX8_clear 0 = .ok (.aload_n 0, 1) := by decide +kernel
theorem dX8_clear_1 : decode cX8_clear 1 = .ok (.getfield 15, 3) := by decide +kernel
theorem dX8_clear_4 : decode cX8_clear 4 = .ok (.iconst 0, 1) := by decide +kernel
theorem dX8_clear_5 : decode cX8_clear 5 = .ok (.iconst 0, 1) := by decide +kernel
theorem dX8_clear_6 : decode cX8_clear 6 = .ok (.iastore, 1) := by decide +kernel
theorem dX8_clear_7 : decode cX8_clear 7 = .ok (.aload_n 0, 1) := by decide +kernel
theorem dX8_clear_8 : decode cX8_clear 8 = .ok (.getfield 15, 3) := by decide +kernel
theorem dX8_clear_11 : decode cX8_clear 11 = .ok (.iconst 1, 1) := by decide +kernel
theorem dX8_clear_12 : decode cX8_clear 12 = .ok (.iconst 0, 1) := by decide +kernel
theorem dX8_clear_13 : decode cX8_clear 13 = .ok (.iastore, 1) := by decide +kernel
theorem dX8_clear_14 : decode cX8_clear 14 = .ok (.aload_n 0, 1) := by decide +kernel
theorem dX8_clear_15 : decode cX8_clear 15 = .ok (.iconst 1, 1) := by decide +kernel
theorem dX8_clear_16 : decode cX8_clear 16 = .ok (.putfield 19, 3) := by decide +kernel
theorem dX8_clear_19 : decode cX8_clear 19 = .ok (.aload_n 0, 1) := by decide +kernel
theorem dX8_clear_20 : decode cX8_clear 20 = .ok (.iconst 0, 1) := by decide +kernel
theorem dX8_clear_21 : decode cX8_clear 21 = .ok (.putfield 32, 3) := by decide +kernel
theorem dX8_clear_24 : decode cX8_clear 24 = .ok (.return_, 1) := by decide +kernel
theorem dX8_lineCount_0 : decode cX8_lineCount 0 = .ok (.aload_n 0, 1) := by decide +kernel
theorem dX8_lineCount_1 : decode cX8_lineCount 1 = .ok (.getfield 19, 3) := by decide +kernel
theorem dX8_lineCount_4 : decode cX8_lineCount 4 = .ok (.ireturn, 1) := by decide +kernel
theorem dX8_chordCount_0 : decode cX8_chordCount 0 = .ok (.aload_n 0, 1) := by decide +kernel
theorem dX8_chordCount_1 : decode cX8_chordCount 1 = .ok (.getfield 32, 3) := by decide +kernel
theorem dX8_chordCount_4 : decode cX8_chordCount 4 = .ok (.ireturn, 1) := by decide +kernel
theorem dX8_hasLine_0 : decode cX8_hasLine 0 = .ok (.iload_n 1, 1) := by decide +kernel
theorem dX8_hasLine_1 : decode cX8_hasLine 1 = .ok (.ifCond .lt 15, 3) := by decide +kernel
theorem dX8_hasLine_4 : decode cX8_hasLine 4 = .ok (.iload_n 1, 1) := by decide +kernel
theorem dX8_hasLine_5 : decode cX8_hasLine 5 = .ok (.aload_n 0, 1) := by decide +kernel
theorem dX8_hasLine_6 : decode cX8_hasLine 6 = .ok (.getfield 19, 3) := by decide +kernel
theorem dX8_hasLine_9 : decode cX8_hasLine 9 = .ok (.if_icmp .ge 7, 3) := by decide +kernel
theorem dX8_hasLine_12 : decode cX8_hasLine 12 = .ok (.iconst 1, 1) := by decide +kernel
theorem dX8_hasLine_13 : decode cX8_hasLine 13 = .ok (.goto 4, 3) := by decide +kernel
theorem dX8_hasLine_16 : decode cX8_hasLine 16 = .ok (.iconst 0, 1) := by decide +kernel
theorem dX8_hasLine_17 : decode cX8_hasLine 17 = .ok (.ireturn, 1) := by decide +kernel
theorem dX8_lengthOf_0 : decode cX8_lengthOf 0 = .ok (.aload_n 0, 1) := by decide +kernel
theorem dX8_lengthOf_1 : decode cX8_lengthOf 1 = .ok (.iload_n 1, 1) := by decide +kernel
theorem dX8_lengthOf_2 : decode cX8_lengthOf 2 = .ok (.iconst 1, 1) := by decide +kernel
theorem dX8_lengthOf_3 : decode cX8_lengthOf 3 = .ok (.iadd, 1) := by decide +kernel
theorem dX8_lengthOf_4 : decode cX8_lengthOf 4 = .ok (.invokevirtual 42, 3) := by decide +kernel
theorem dX8_lengthOf_7 : decode cX8_lengthOf 7 = .ok (.aload_n 0, 1) := by decide +kernel
theorem dX8_lengthOf_8 : decode cX8_lengthOf 8 = .ok (.iload_n 1, 1) := by decide +kernel
theorem dX8_lengthOf_9 : decode cX8_lengthOf 9 = .ok (.invokevirtual 42, 3) := by decide +kernel
theorem dX8_lengthOf_12 : decode cX8_lengthOf 12 = .ok (.isub, 1) := by decide +kernel
theorem dX8_lengthOf_13 : decode cX8_lengthOf 13 = .ok (.ireturn, 1) := by decide +kernel
theorem dX8_letterAt_0 : decode cX8_letterAt 0 = .ok (.aload_n 0, 1) := by decide +kernel
theorem dX8_letterAt_1 : decode cX8_letterAt 1 = .ok (.iload_n 1, 1) := by decide +kernel
theorem dX8_letterAt_2 : decode cX8_letterAt 2 = .ok (.invokevirtual 42, 3) := by decide +kernel
theorem dX8_letterAt_5 : decode cX8_letterAt 5 = .ok (.iload_n 2, 1) := by decide +kernel
theorem dX8_letterAt_6 : decode cX8_letterAt 6 = .ok (.iadd, 1) := by decide +kernel
theorem dX8_letterAt_7 : decode cX8_letterAt 7 = .ok (.istore_n 3, 1) := by decide +kernel
theorem dX8_letterAt_8 : decode cX8_letterAt 8 = .ok (.iload_n 2, 1) := by decide +kernel
theorem dX8_letterAt_9 : decode cX8_letterAt 9 = .ok (.ifCond .lt 18, 3) := by decide +kernel
theorem dX8_letterAt_12 : decode cX8_letterAt 12 = .ok (.iload_n 3, 1) := by decide +kernel
theorem dX8_letterAt_13 : decode cX8_letterAt 13 = .ok (.aload_n 0, 1) := by decide +kernel
theorem dX8_letterAt_14 : decode cX8_letterAt 14 = .ok (.iload_n 1, 1) := by decide +kernel
theorem dX8_letterAt_15 : decode cX8_letterAt 15 = .ok (.iconst 1, 1) := by decide +kernel
theorem dX8_letterAt_16 : decode cX8_letterAt 16 = .ok (.iadd, 1) := by decide +kernel
theorem dX8_letterAt_17 : decode cX8_letterAt 17 = .ok (.invokevirtual 42, 3) := by decide +kernel
theorem dX8_letterAt_20 : decode cX8_letterAt 20 = .ok (.if_icmp .ge 7, 3) := by decide +kernel
theorem dX8_letterAt_23 : decode cX8_letterAt 23 = .ok (.iconst 1, 1) := by decide +kernel
theorem dX8_letterAt_24 : decode cX8_letterAt 24 = .ok (.goto 4, 3) := by decide +kernel
theorem dX8_letterAt_27 : decode cX8_letterAt 27 = .ok (.iconst 0, 1) := by decide +kernel
theorem dX8_letterAt_28 : decode cX8_letterAt 28 = .ok (.istore 4, 2) := by decide +kernel
theorem dX8_letterAt_30 : decode cX8_letterAt 30 = .ok (.iload 4, 2) := by decide +kernel
theorem dX8_letterAt_32 : decode cX8_letterAt 32 = .ok (.ifCond .eq 25, 3) := by decide +kernel
theorem dX8_letterAt_35 : decode cX8_letterAt 35 = .ok (.iload_n 3, 1) := by decide +kernel
theorem dX8_letterAt_36 : decode cX8_letterAt 36 = .ok (.ifCond .lt 21, 3) := by decide +kernel
theorem dX8_letterAt_39 : decode cX8_letterAt 39 = .ok (.iload_n 3, 1) := by decide +kernel
theorem dX8_letterAt_40 : decode cX8_letterAt 40 = .ok (.aload_n 0, 1) := by decide +kernel
theorem dX8_letterAt_41 : decode cX8_letterAt 41 = .ok (.getfield 9, 3) := by decide +kernel
theorem dX8_letterAt_44 : decode cX8_letterAt 44 = .ok (.arraylength, 1) := by decide +kernel
theorem dX8_letterAt_45 : decode cX8_letterAt 45 = .ok (.if_icmp .ge 12, 3) := by decide +kernel
theorem dX8_letterAt_48 : decode cX8_letterAt 48 = .ok (.aload_n 0, 1) := by decide +kernel
theorem dX8_letterAt_49 : decode cX8_letterAt 49 = .ok (.getfield 9, 3) := by decide +kernel
theorem dX8_letterAt_52 : decode cX8_letterAt 52 = .ok (.iload_n 3, 1) := by decide +kernel
theorem dX8_letterAt_53 : decode cX8_letterAt 53 = .ok (.caload, 1) := by decide +kernel
theorem dX8_letterAt_54 : decode cX8_letterAt 54 = .ok (.goto 4, 3) := by decide +kernel
theorem dX8_letterAt_57 : decode cX8_letterAt 57 = .ok (.iconst (-1), 1) := by decide +kernel
theorem dX8_letterAt_58 : decode cX8_letterAt 58 = .ok (.ireturn, 1) := by decide +kernel
theorem dX8_addLetter_0 : decode cX8_addLetter 0 = .ok (.aload_n 0, 1) := by decide +kernel
theorem dX8_addLetter_1 : decode cX8_addLetter 1 = .ok (.aload_n 0, 1) := by decide +kernel
theorem dX8_addLetter_2 : decode cX8_addLetter 2 = .ok (.getfield 19, 3) := by decide +kernel
theorem dX8_addLetter_5 : decode cX8_addLetter 5 = .ok (.invokevirtual 42, 3) := by decide +kernel
theorem dX8_addLetter_8 : decode cX8_addLetter 8 = .ok (.istore_n 2, 1) := by decide +kernel
theorem dX8_addLetter_9 : decode cX8_addLetter 9 = .ok (.iload_n 2, 1) := by decide +kernel
theorem dX8_addLetter_10 : decode cX8_addLetter 10 = .ok (.ifCond .lt 50, 3) := by decide +kernel
theorem dX8_addLetter_13 : decode cX8_addLetter 13 = .ok (.iload_n 2, 1) := by decide +kernel
theorem dX8_addLetter_14 : decode cX8_addLetter 14 = .ok (.aload_n 0, 1) := by decide +kernel
theorem dX8_addLetter_15 : decode cX8_addLetter 15 = .ok (.getfield 9, 3) := by decide +kernel
theorem dX8_addLetter_18 : decode cX8_addLetter 18 = .ok (.arraylength, 1) := by decide +kernel
theorem dX8_addLetter_19 : decode cX8_addLetter 19 = .ok (.if_icmp .ge 41, 3) := by decide +kernel
theorem dX8_addLetter_22 : decode cX8_addLetter 22 = .ok (.aload_n 0, 1) := by decide +kernel
theorem dX8_addLetter_23 : decode cX8_addLetter 23 = .ok (.getfield 19, 3) := by decide +kernel
theorem dX8_addLetter_26 : decode cX8_addLetter 26 = .ok (.ifCond .lt 34, 3) := by decide +kernel
theorem dX8_addLetter_29 : decode cX8_addLetter 29 = .ok (.aload_n 0, 1) := by decide +kernel
theorem dX8_addLetter_30 : decode cX8_addLetter 30 = .ok (.getfield 19, 3) := by decide +kernel
theorem dX8_addLetter_33 : decode cX8_addLetter 33 = .ok (.aload_n 0, 1) := by decide +kernel
theorem dX8_addLetter_34 : decode cX8_addLetter 34 = .ok (.getfield 15, 3) := by decide +kernel
theorem dX8_addLetter_37 : decode cX8_addLetter 37 = .ok (.arraylength, 1) := by decide +kernel
theorem dX8_addLetter_38 : decode cX8_addLetter 38 = .ok (.if_icmp .ge 22, 3) := by decide +kernel
theorem dX8_addLetter_41 : decode cX8_addLetter 41 = .ok (.aload_n 0, 1) := by decide +kernel
theorem dX8_addLetter_42 : decode cX8_addLetter 42 = .ok (.getfield 9, 3) := by decide +kernel
theorem dX8_addLetter_45 : decode cX8_addLetter 45 = .ok (.iload_n 2, 1) := by decide +kernel
theorem dX8_addLetter_46 : decode cX8_addLetter 46 = .ok (.iload_n 1, 1) := by decide +kernel
theorem dX8_addLetter_47 : decode cX8_addLetter 47 = .ok (.castore, 1) := by decide +kernel
theorem dX8_addLetter_48 : decode cX8_addLetter 48 = .ok (.aload_n 0, 1) := by decide +kernel
theorem dX8_addLetter_49 : decode cX8_addLetter 49 = .ok (.getfield 15, 3) := by decide +kernel
theorem dX8_addLetter_52 : decode cX8_addLetter 52 = .ok (.aload_n 0, 1) := by decide +kernel
theorem dX8_addLetter_53 : decode cX8_addLetter 53 = .ok (.getfield 19, 3) := by decide +kernel
theorem dX8_addLetter_56 : decode cX8_addLetter 56 = .ok (.iload_n 2, 1) := by decide +kernel
theorem dX8_addLetter_57 : decode cX8_addLetter 57 = .ok (.iconst 1, 1) := by decide +kernel
theorem dX8_addLetter_58 : decode cX8_addLetter 58 = .ok (.iadd, 1) := by decide +kernel
theorem dX8_addLetter_59 : decode cX8_addLetter 59 = .ok (.iastore, 1) := by decide +kernel
theorem dX8_addLetter_60 : decode cX8_addLetter 60 = .ok (.return_, 1) := by decide +kernel
theorem dX8_beginLine_0 : decode cX8_beginLine 0 = .ok (.aload_n 0, 1) := by decide +kernel
theorem dX8_beginLine_1 : decode cX8_beginLine 1 = .ok (.getfield 19, 3) := by decide +kernel
theorem dX8_beginLine_4 : decode cX8_beginLine 4 = .ok (.iconst 1, 1) := by decide +kernel
theorem dX8_beginLine_5 : decode cX8_beginLine 5 = .ok (.iadd, 1) := by decide +kernel
theorem dX8_beginLine_6 : decode cX8_beginLine 6 = .ok (.istore_n 1, 1) := by decide +kernel
theorem dX8_beginLine_7 : decode cX8_beginLine 7 = .ok (.iload_n 1, 1) := by decide +kernel
theorem dX8_beginLine_8 : decode cX8_beginLine 8 = .ok (.ifCond .lt 31, 3) := by decide +kernel
theorem dX8_beginLine_11 : decode cX8_beginLine 11 = .ok (.iload_n 1, 1) := by decide +kernel
theorem dX8_beginLine_12 : decode cX8_beginLine 12 = .ok (.aload_n 0, 1) := by decide +kernel
theorem dX8_beginLine_13 : decode cX8_beginLine 13 = .ok (.getfield 15, 3) := by decide +kernel
theorem dX8_beginLine_16 : decode cX8_beginLine 16 = .ok (.arraylength, 1) := by decide +kernel
theorem dX8_beginLine_17 : decode cX8_beginLine 17 = .ok (.if_icmp .ge 22, 3) := by decide +kernel
theorem dX8_beginLine_20 : decode cX8_beginLine 20 = .ok (.aload_n 0, 1) := by decide +kernel
theorem dX8_beginLine_21 : decode cX8_beginLine 21 = .ok (.getfield 15, 3) := by decide +kernel
theorem dX8_beginLine_24 : decode cX8_beginLine 24 = .ok (.iload_n 1, 1) := by decide +kernel
theorem dX8_beginLine_25 : decode cX8_beginLine 25 = .ok (.aload_n 0, 1) := by decide +kernel
theorem dX8_beginLine_26 : decode cX8_beginLine 26 = .ok (.aload_n 0, 1) := by decide +kernel
theorem dX8_beginLine_27 : decode cX8_beginLine 27 = .ok (.getfield 19, 3) := by decide +kernel
theorem dX8_beginLine_30 : decode cX8_beginLine 30 = .ok (.invokevirtual 42, 3) := by decide +kernel
theorem dX8_beginLine_33 : decode cX8_beginLine 33 = .ok (.iastore, 1) := by decide +kernel
theorem dX8_beginLine_34 : decode cX8_beginLine 34 = .ok (.aload_n 0, 1) := by decide +kernel
theorem dX8_beginLine_35 : decode cX8_beginLine 35 = .ok (.iload_n 1, 1) := by decide +kernel
theorem dX8_beginLine_36 : decode cX8_beginLine 36 = .ok (.putfield 19, 3) := by decide +kernel
theorem dX8_beginLine_39 : decode cX8_beginLine 39 = .ok (.return_, 1) := by decide +kernel
theorem dX8_get_0 : decode cX8_get 0 = .ok (.iload_n 1, 1) := by decide +kernel
theorem dX8_get_1 : decode cX8_get 1 = .ok (.iconst 5, 1) := by decide +kernel
theorem dX8_get_2 : decode cX8_get 2 = .ok (.imul, 1) := by decide +kernel
theorem dX8_get_3 : decode cX8_get 3 = .ok (.iload_n 2, 1) := by decide +kernel
theorem dX8_get_4 : decode cX8_get 4 = .ok (.iadd, 1) := by decide +kernel
theorem dX8_get_5 : decode cX8_get 5 = .ok (.istore_n 3, 1) := by decide +kernel
theorem dX8_get_6 : decode cX8_get 6 = .ok (.iload_n 3, 1) := by decide +kernel
theorem dX8_get_7 : decode cX8_get 7 = .ok (.ifCond .lt 21, 3) := by decide +kernel
theorem dX8_get_10 : decode cX8_get 10 = .ok (.iload_n 3, 1) := by decide +kernel
theorem dX8_get_11 : decode cX8_get 11 = .ok (.aload_n 0, 1) := by decide +kernel
theorem dX8_get_12 : decode cX8_get 12 = .ok (.getfield 23, 3) := by decide +kernel
theorem dX8_get_15 : decode cX8_get 15 = .ok (.arraylength, 1) := by decide +kernel
theorem dX8_get_16 : decode cX8_get 16 = .ok (.if_icmp .ge 12, 3) := by decide +kernel
theorem dX8_get_19 : decode cX8_get 19 = .ok (.aload_n 0, 1) := by decide +kernel
theorem dX8_get_20 : decode cX8_get 20 = .ok (.getfield 23, 3) := by decide +kernel
theorem dX8_get_23 : decode cX8_get 23 = .ok (.iload_n 3, 1) := by decide +kernel
theorem dX8_get_24 : decode cX8_get 24 = .ok (.iaload, 1) := by decide +kernel
theorem dX8_get_25 : decode cX8_get 25 = .ok (.goto 4, 3) := by decide +kernel
theorem dX8_get_28 : decode cX8_get 28 = .ok (.iconst 0, 1) := by decide +kernel
theorem dX8_get_29 : decode cX8_get 29 = .ok (.ireturn, 1) := by decide +kernel
theorem dX8_put_0 : decode cX8_put 0 = .ok (.aload_n 0, 1) := by decide +kernel
theorem dX8_put_1 : decode cX8_put 1 = .ok (.iload_n 1, 1) := by decide +kernel
theorem dX8_put_2 : decode cX8_put 2 = .ok (.iconst 2, 1) := by decide +kernel
theorem dX8_put_3 : decode cX8_put 3 = .ok (.iload_n 2, 1) := by decide +kernel
theorem dX8_put_4 : decode cX8_put 4 = .ok (.invokevirtual 46, 3) := by decide +kernel
theorem dX8_put_7 : decode cX8_put 7 = .ok (.aload_n 0, 1) := by decide +kernel
theorem dX8_put_8 : decode cX8_put 8 = .ok (.iload_n 1, 1) := by decide +kernel
theorem dX8_put_9 : decode cX8_put 9 = .ok (.iconst 3, 1) := by decide +kernel
theorem dX8_put_10 : decode cX8_put 10 = .ok (.iload_n 3, 1) := by decide +kernel
theorem dX8_put_11 : decode cX8_put 11 = .ok (.invokevirtual 46, 3) := by decide +kernel
theorem dX8_put_14 : decode cX8_put 14 = .ok (.aload_n 0, 1) := by decide +kernel
theorem dX8_put_15 : decode cX8_put 15 = .ok (.iload_n 1, 1) := by decide +kernel
theorem dX8_put_16 : decode cX8_put 16 = .ok (.iconst 4, 1) := by decide +kernel
theorem dX8_put_17 : decode cX8_put 17 = .ok (.iload 4, 2) := by decide +kernel
theorem dX8_put_19 : decode cX8_put 19 = .ok (.invokevirtual 46, 3) := by decide +kernel
theorem dX8_put_22 : decode cX8_put 22 = .ok (.return_, 1) := by decide +kernel
theorem dX8_append_0 : decode cX8_append 0 = .ok (.aload_n 0, 1) := by decide +kernel
theorem dX8_append_1 : decode cX8_append 1 = .ok (.getfield 19, 3) := by decide +kernel
theorem dX8_append_4 : decode cX8_append 4 = .ok (.iconst 1, 1) := by decide +kernel
theorem dX8_append_5 : decode cX8_append 5 = .ok (.isub, 1) := by decide +kernel
theorem dX8_append_6 : decode cX8_append 6 = .ok (.istore 4, 2) := by decide +kernel
theorem dX8_append_8 : decode cX8_append 8 = .ok (.aload_n 0, 1) := by decide +kernel
theorem dX8_append_9 : decode cX8_append 9 = .ok (.iload 4, 2) := by decide +kernel
theorem dX8_append_11 : decode cX8_append 11 = .ok (.aload_n 0, 1) := by decide +kernel
theorem dX8_append_12 : decode cX8_append 12 = .ok (.iload 4, 2) := by decide +kernel
theorem dX8_append_14 : decode cX8_append 14 = .ok (.invokevirtual 50, 3) := by decide +kernel
theorem dX8_append_17 : decode cX8_append 17 = .ok (.iload_n 1, 1) := by decide +kernel
theorem dX8_append_18 : decode cX8_append 18 = .ok (.iload_n 2, 1) := by decide +kernel
theorem dX8_append_19 : decode cX8_append 19 = .ok (.iload_n 3, 1) := by decide +kernel
theorem dX8_append_20 : decode cX8_append 20 = .ok (.invokevirtual 53, 3) := by decide +kernel
theorem dX8_append_23 : decode cX8_append 23 = .ok (.pop, 1) := by decide +kernel
theorem dX8_append_24 : decode cX8_append 24 = .ok (.return_, 1) := by decide +kernel
theorem dX8_insert_0 : decode cX8_insert 0 = .ok (.aload_n 0, 1) := by decide +kernel
theorem dX8_insert_1 : decode cX8_insert 1 = .ok (.iload_n 1, 1) := by decide +kernel
theorem dX8_insert_2 : decode cX8_insert 2 = .ok (.iload_n 2, 1) := by decide +kernel
theorem dX8_insert_3 : decode cX8_insert 3 = .ok (.invokevirtual 57, 3) := by decide +kernel
theorem dX8_insert_6 : decode cX8_insert 6 = .ok (.istore 6, 2) := by decide +kernel
theorem dX8_insert_8 : decode cX8_insert 8 = .ok (.aload_n 0, 1) := by decide +kernel
theorem dX8_insert_9 : decode cX8_insert 9 = .ok (.getfield 32, 3) := by decide +kernel
theorem dX8_insert_12 : decode cX8_insert 12 = .ok (.bipush 40, 2) := by decide +kernel
theorem dX8_insert_14 : decode cX8_insert 14 = .ok (.if_icmp .ge 83, 3) := by decide +kernel
theorem dX8_insert_17 : decode cX8_insert 17 = .ok (.iload 6, 2) := by decide +kernel
theorem dX8_insert_19 : decode cX8_insert 19 = .ok (.aload_n 0, 1) := by decide +kernel
theorem dX8_insert_20 : decode cX8_insert 20 = .ok (.getfield 32, 3) := by decide +kernel
theorem dX8_insert_23 : decode cX8_insert 23 = .ok (.if_icmp .gt 74, 3) := by decide +kernel
theorem dX8_insert_26 : decode cX8_insert 26 = .ok (.aload_n 0, 1) := by decide +kernel
theorem dX8_insert_27 : decode cX8_insert 27 = .ok (.getfield 32, 3) := by decide +kernel
theorem dX8_insert_30 : decode cX8_insert 30 = .ok (.iload 6, 2) := by decide +kernel
theorem dX8_insert_32 : decode cX8_insert 32 = .ok (.isub, 1) := by decide +kernel
theorem dX8_insert_33 : decode cX8_insert 33 = .ok (.iconst 5, 1) := by decide +kernel
theorem dX8_insert_34 : decode cX8_insert 34 = .ok (.imul, 1) := by decide +kernel
theorem dX8_insert_35 : decode cX8_insert 35 = .ok (.istore 7, 2) := by decide +kernel
theorem dX8_insert_37 : decode cX8_insert 37 = .ok (.aload_n 0, 1) := by decide +kernel
theorem dX8_insert_38 : decode cX8_insert 38 = .ok (.getfield 23, 3) := by decide +kernel
theorem dX8_insert_41 : decode cX8_insert 41 = .ok (.iload 6, 2) := by decide +kernel
theorem dX8_insert_43 : decode cX8_insert 43 = .ok (.iconst 5, 1) := by decide +kernel
theorem dX8_insert_44 : decode cX8_insert 44 = .ok (.imul, 1) := by decide +kernel
theorem dX8_insert_45 : decode cX8_insert 45 = .ok (.aload_n 0, 1) := by decide +kernel
theorem dX8_insert_46 : decode cX8_insert 46 = .ok (.getfield 23, 3) := by decide +kernel
theorem dX8_insert_49 : decode cX8_insert 49 = .ok (.iload 6, 2) := by decide +kernel
theorem dX8_insert_51 : decode cX8_insert 51 = .ok (.iconst 1, 1) := by decide +kernel
theorem dX8_insert_52 : decode cX8_insert 52 = .ok (.iadd, 1) := by decide +kernel
theorem dX8_insert_53 : decode cX8_insert 53 = .ok (.iconst 5, 1) := by decide +kernel
theorem dX8_insert_54 : decode cX8_insert 54 = .ok (.imul, 1) := by decide +kernel
theorem dX8_insert_55 : decode cX8_insert 55 = .ok (.iload 7, 2) := by decide +kernel
theorem dX8_insert_57 : decode cX8_insert 57 = .ok (.invokestatic 26, 3) := by decide +kernel
theorem dX8_insert_60 : decode cX8_insert 60 = .ok (.aload_n 0, 1) := by decide +kernel
theorem dX8_insert_61 : decode cX8_insert 61 = .ok (.dup, 1) := by decide +kernel
theorem dX8_insert_62 : decode cX8_insert 62 = .ok (.getfield 32, 3) := by decide +kernel
theorem dX8_insert_65 : decode cX8_insert 65 = .ok (.iconst 1, 1) := by decide +kernel
theorem dX8_insert_66 : decode cX8_insert 66 = .ok (.iadd, 1) := by decide +kernel
theorem dX8_insert_67 : decode cX8_insert 67 = .ok (.putfield 32, 3) := by decide +kernel
theorem dX8_insert_70 : decode cX8_insert 70 = .ok (.aload_n 0, 1) := by decide +kernel
theorem dX8_insert_71 : decode cX8_insert 71 = .ok (.iload 6, 2) := by decide +kernel
theorem dX8_insert_73 : decode cX8_insert 73 = .ok (.iconst 0, 1) := by decide +kernel
theorem dX8_insert_74 : decode cX8_insert 74 = .ok (.iload_n 1, 1) := by decide +kernel
theorem dX8_insert_75 : decode cX8_insert 75 = .ok (.invokevirtual 46, 3) := by decide +kernel
theorem dX8_insert_78 : decode cX8_insert 78 = .ok (.aload_n 0, 1) := by decide +kernel
theorem dX8_insert_79 : decode cX8_insert 79 = .ok (.iload 6, 2) := by decide +kernel
theorem dX8_insert_81 : decode cX8_insert 81 = .ok (.iconst 1, 1) := by decide +kernel
theorem dX8_insert_82 : decode cX8_insert 82 = .ok (.iload_n 2, 1) := by decide +kernel
theorem dX8_insert_83 : decode cX8_insert 83 = .ok (.invokevirtual 46, 3) := by decide +kernel
theorem dX8_insert_86 : decode cX8_insert 86 = .ok (.aload_n 0, 1) := by decide +kernel
theorem dX8_insert_87 : decode cX8_insert 87 = .ok (.iload 6, 2) := by decide +kernel
theorem dX8_insert_89 : decode cX8_insert 89 = .ok (.iload_n 3, 1) := by decide +kernel
theorem dX8_insert_90 : decode cX8_insert 90 = .ok (.iload 4, 2) := by decide +kernel
theorem dX8_insert_92 : decode cX8_insert 92 = .ok (.iload 5, 2) := by decide +kernel
theorem dX8_insert_94 : decode cX8_insert 94 = .ok (.invokevirtual 61, 3) := by decide +kernel
theorem dX8_insert_97 : decode cX8_insert 97 = .ok (.iload 6, 2) := by decide +kernel
theorem dX8_insert_99 : decode cX8_insert 99 = .ok (.ireturn, 1) := by decide +kernel
theorem dX8_takeOut_0 : decode cX8_takeOut 0 = .ok (.iload_n 1, 1) := by decide +kernel
theorem dX8_takeOut_1 : decode cX8_takeOut 1 = .ok (.ifCond .lt 61, 3) := by decide +kernel
theorem dX8_takeOut_4 : decode cX8_takeOut 4 = .ok (.iload_n 1, 1) := by decide +kernel
theorem dX8_takeOut_5 : decode cX8_takeOut 5 = .ok (.aload_n 0, 1) := by decide +kernel
theorem dX8_takeOut_6 : decode cX8_takeOut 6 = .ok (.getfield 32, 3) := by decide +kernel
theorem dX8_takeOut_9 : decode cX8_takeOut 9 = .ok (.if_icmp .ge 53, 3) := by decide +kernel
theorem dX8_takeOut_12 : decode cX8_takeOut 12 = .ok (.aload_n 0, 1) := by decide +kernel
theorem dX8_takeOut_13 : decode cX8_takeOut 13 = .ok (.getfield 32, 3) := by decide +kernel
theorem dX8_takeOut_16 : decode cX8_takeOut 16 = .ok (.bipush 40, 2) := by decide +kernel
theorem dX8_takeOut_18 : decode cX8_takeOut 18 = .ok (.if_icmp .gt 44, 3) := by decide +kernel
theorem dX8_takeOut_21 : decode cX8_takeOut 21 = .ok (.aload_n 0, 1) := by decide +kernel
theorem dX8_takeOut_22 : decode cX8_takeOut 22 = .ok (.getfield 32, 3) := by decide +kernel
theorem dX8_takeOut_25 : decode cX8_takeOut 25 = .ok (.iconst 1, 1) := by decide +kernel
theorem dX8_takeOut_26 : decode cX8_takeOut 26 = .ok (.isub, 1) := by decide +kernel
theorem dX8_takeOut_27 : decode cX8_takeOut 27 = .ok (.iload_n 1, 1) := by decide +kernel
theorem dX8_takeOut_28 : decode cX8_takeOut 28 = .ok (.isub, 1) := by decide +kernel
theorem dX8_takeOut_29 : decode cX8_takeOut 29 = .ok (.iconst 5, 1) := by decide +kernel
theorem dX8_takeOut_30 : decode cX8_takeOut 30 = .ok (.imul, 1) := by decide +kernel
theorem dX8_takeOut_31 : decode cX8_takeOut 31 = .ok (.istore_n 2, 1) := by decide +kernel
theorem dX8_takeOut_32 : decode cX8_takeOut 32 = .ok (.aload_n 0, 1) := by decide +kernel
theorem dX8_takeOut_33 : decode cX8_takeOut 33 = .ok (.getfield 23, 3) := by decide +kernel
theorem dX8_takeOut_36 : decode cX8_takeOut 36 = .ok (.iload_n 1, 1) := by decide +kernel
theorem dX8_takeOut_37 : decode cX8_takeOut 37 = .ok (.iconst 1, 1) := by decide +kernel
theorem dX8_takeOut_38 : decode cX8_takeOut 38 = .ok (.iadd, 1) := by decide +kernel
theorem dX8_takeOut_39 : decode cX8_takeOut 39 = .ok (.iconst 5, 1) := by decide +kernel
theorem dX8_takeOut_40 : decode cX8_takeOut 40 = .ok (.imul, 1) := by decide +kernel
theorem dX8_takeOut_41 : decode cX8_takeOut 41 = .ok (.aload_n 0, 1) := by decide +kernel
theorem dX8_takeOut_42 : decode cX8_takeOut 42 = .ok (.getfield 23, 3) := by decide +kernel
theorem dX8_takeOut_45 : decode cX8_takeOut 45 = .ok (.iload_n 1, 1) := by decide +kernel
theorem dX8_takeOut_46 : decode cX8_takeOut 46 = .ok (.iconst 5, 1) := by decide +kernel
theorem dX8_takeOut_47 : decode cX8_takeOut 47 = .ok (.imul, 1) := by decide +kernel
theorem dX8_takeOut_48 : decode cX8_takeOut 48 = .ok (.iload_n 2, 1) := by decide +kernel
theorem dX8_takeOut_49 : decode cX8_takeOut 49 = .ok (.invokestatic 26, 3) := by decide +kernel
theorem dX8_takeOut_52 : decode cX8_takeOut 52 = .ok (.aload_n 0, 1) := by decide +kernel
theorem dX8_takeOut_53 : decode cX8_takeOut 53 = .ok (.dup, 1) := by decide +kernel
theorem dX8_takeOut_54 : decode cX8_takeOut 54 = .ok (.getfield 32, 3) := by decide +kernel
theorem dX8_takeOut_57 : decode cX8_takeOut 57 = .ok (.iconst 1, 1) := by decide +kernel
theorem dX8_takeOut_58 : decode cX8_takeOut 58 = .ok (.isub, 1) := by decide +kernel
theorem dX8_takeOut_59 : decode cX8_takeOut 59 = .ok (.putfield 32, 3) := by decide +kernel
theorem dX8_takeOut_62 : decode cX8_takeOut 62 = .ok (.return_, 1) := by decide +kernel
theorem dX8_countUpTo_0 : decode cX8_countUpTo 0 = .ok (.iconst 0, 1) := by decide +kernel
theorem dX8_countUpTo_1 : decode cX8_countUpTo 1 = .ok (.istore_n 3, 1) := by decide +kernel
theorem dX8_countUpTo_2 : decode cX8_countUpTo 2 = .ok (.iload_n 3, 1) := by decide +kernel
theorem dX8_countUpTo_3 : decode cX8_countUpTo 3 = .ok (.aload_n 0, 1) := by decide +kernel
theorem dX8_countUpTo_4 : decode cX8_countUpTo 4 = .ok (.getfield 32, 3) := by decide +kernel
theorem dX8_countUpTo_7 : decode cX8_countUpTo 7 = .ok (.if_icmp .ge 19, 3) := by decide +kernel
theorem dX8_countUpTo_10 : decode cX8_countUpTo 10 = .ok (.aload_n 0, 1) := by decide +kernel
theorem dX8_countUpTo_11 : decode cX8_countUpTo 11 = .ok (.iload_n 3, 1) := by decide +kernel
theorem dX8_countUpTo_12 : decode cX8_countUpTo 12 = .ok (.iload_n 1, 1) := by decide +kernel
theorem dX8_countUpTo_13 : decode cX8_countUpTo 13 = .ok (.iload_n 2, 1) := by decide +kernel
theorem dX8_countUpTo_14 : decode cX8_countUpTo 14 = .ok (.invokevirtual 65, 3) := by decide +kernel
theorem dX8_countUpTo_17 : decode cX8_countUpTo 17 = .ok (.ifCond .eq 9, 3) := by decide +kernel
theorem dX8_countUpTo_20 : decode cX8_countUpTo 20 = .ok (.iinc 3 1, 3) := by decide +kernel
theorem dX8_countUpTo_23 : decode cX8_countUpTo 23 = .ok (.goto (-21), 3) := by decide +kernel
theorem dX8_countUpTo_26 : decode cX8_countUpTo 26 = .ok (.iload_n 3, 1) := by decide +kernel
theorem dX8_countUpTo_27 : decode cX8_countUpTo 27 = .ok (.ireturn, 1) := by decide +kernel
theorem dX8_isAt_0 : decode cX8_isAt 0 = .ok (.aload_n 0, 1) := by decide +kernel
theorem dX8_isAt_1 : decode cX8_isAt 1 = .ok (.iload_n 1, 1) := by decide +kernel
theorem dX8_isAt_2 : decode cX8_isAt 2 = .ok (.iconst 0, 1) := by decide +kernel
theorem dX8_isAt_3 : decode cX8_isAt 3 = .ok (.invokevirtual 69, 3) := by decide +kernel
theorem dX8_isAt_6 : decode cX8_isAt 6 = .ok (.iload_n 2, 1) := by decide +kernel
theorem dX8_isAt_7 : decode cX8_isAt 7 = .ok (.if_icmp .ne 17, 3) := by decide +kernel
theorem dX8_isAt_10 : decode cX8_isAt 10 = .ok (.aload_n 0, 1) := by decide +kernel
theorem dX8_isAt_11 : decode cX8_isAt 11 = .ok (.iload_n 1, 1) := by decide +kernel
theorem dX8_isAt_12 : decode cX8_isAt 12 = .ok (.iconst 1, 1) := by decide +kernel
theorem dX8_isAt_13 : decode cX8_isAt 13 = .ok (.invokevirtual 69, 3) := by decide +kernel
theorem dX8_isAt_16 : decode cX8_isAt 16 = .ok (.iload_n 3, 1) := by decide +kernel
theorem dX8_isAt_17 : decode cX8_isAt 17 = .ok (.if_icmp .ne 7, 3) := by decide +kernel
theorem dX8_isAt_20 : decode cX8_isAt 20 = .ok (.iconst 1, 1) := by decide +kernel
theorem dX8_isAt_21 : decode cX8_isAt 21 = .ok (.goto 4, 3) := by decide +kernel
theorem dX8_isAt_24 : decode cX8_isAt 24 = .ok (.iconst 0, 1) := by decide +kernel
theorem dX8_isAt_25 : decode cX8_isAt 25 = .ok (.ireturn, 1) := by decide +kernel
theorem dX8_tonesOf_0 : decode cX8_tonesOf 0 = .ok (.aload_n 0, 1) := by decide +kernel
theorem dX8_tonesOf_1 : decode cX8_tonesOf 1 = .ok (.iload_n 1, 1) := by decide +kernel
theorem dX8_tonesOf_2 : decode cX8_tonesOf 2 = .ok (.iconst 2, 1) := by decide +kernel
theorem dX8_tonesOf_3 : decode cX8_tonesOf 3 = .ok (.invokevirtual 69, 3) := by decide +kernel
theorem dX8_tonesOf_6 : decode cX8_tonesOf 6 = .ok (.invokestatic 72, 3) := by decide +kernel
theorem dX8_tonesOf_9 : decode cX8_tonesOf 9 = .ok (.istore_n 2, 1) := by decide +kernel
theorem dX8_tonesOf_10 : decode cX8_tonesOf 10 = .ok (.aload_n 0, 1) := by decide +kernel
theorem dX8_tonesOf_11 : decode cX8_tonesOf 11 = .ok (.iload_n 1, 1) := by decide +kernel
theorem dX8_tonesOf_12 : decode cX8_tonesOf 12 = .ok (.iconst 3, 1) := by decide +kernel
theorem dX8_tonesOf_13 : decode cX8_tonesOf 13 = .ok (.invokevirtual 69, 3) := by decide +kernel
theorem dX8_tonesOf_16 : decode cX8_tonesOf 16 = .ok (.invokestatic 77, 3) := by decide +kernel
theorem dX8_tonesOf_19 : decode cX8_tonesOf 19 = .ok (.iload_n 2, 1) := by decide +kernel
theorem dX8_tonesOf_20 : decode cX8_tonesOf 20 = .ok (.invokevirtual 83, 3) := by decide +kernel
theorem dX8_tonesOf_23 : decode cX8_tonesOf 23 = .ok (.istore_n 3, 1) := by decide +kernel
theorem dX8_tonesOf_24 : decode cX8_tonesOf 24 = .ok (.aload_n 0, 1) := by decide +kernel
theorem dX8_tonesOf_25 : decode cX8_tonesOf 25 = .ok (.iload_n 1, 1) := by decide +kernel
theorem dX8_tonesOf_26 : decode cX8_tonesOf 26 = .ok (.iconst 4, 1) := by decide +kernel
theorem dX8_tonesOf_27 : decode cX8_tonesOf 27 = .ok (.invokevirtual 69, 3) := by decide +kernel
theorem dX8_tonesOf_30 : decode cX8_tonesOf 30 = .ok (.istore 4, 2) := by decide +kernel
theorem dX8_tonesOf_32 : decode cX8_tonesOf 32 = .ok (.iload 4, 2) := by decide +kernel
theorem dX8_tonesOf_34 : decode cX8_tonesOf 34 = .ok (.bipush 100, 2) := by decide +kernel
theorem dX8_tonesOf_36 : decode cX8_tonesOf 36 = .ok (.if_icmp .ne 7, 3) := by decide +kernel
theorem dX8_tonesOf_39 : decode cX8_tonesOf 39 = .ok (.iload_n 3, 1) := by decide +kernel
theorem dX8_tonesOf_40 : decode cX8_tonesOf 40 = .ok (.goto 12, 3) := by decide +kernel
theorem dX8_tonesOf_43 : decode cX8_tonesOf 43 = .ok (.iload_n 3, 1) := by decide +kernel
theorem dX8_tonesOf_44 : decode cX8_tonesOf 44 = .ok (.iconst 1, 1) := by decide +kernel
theorem dX8_tonesOf_45 : decode cX8_tonesOf 45 = .ok (.iload 4, 2) := by decide +kernel
theorem dX8_tonesOf_47 : decode cX8_tonesOf 47 = .ok (.invokestatic 72, 3) := by decide +kernel
theorem dX8_tonesOf_50 : decode cX8_tonesOf 50 = .ok (.ishl, 1) := by decide +kernel
theorem dX8_tonesOf_51 : decode cX8_tonesOf 51 = .ok (.ior, 1) := by decide +kernel
theorem dX8_tonesOf_52 : decode cX8_tonesOf 52 = .ok (.ireturn, 1) := by decide +kernel
theorem dX8_writeName_0 : decode cX8_writeName 0 = .ok (.aload_n 0, 1) := by decide +kernel
theorem dX8_writeName_1 : decode cX8_writeName 1 = .ok (.iload_n 1, 1) := by decide +kernel
theorem dX8_writeName_2 : decode cX8_writeName 2 = .ok (.iconst 2, 1) := by decide +kernel
theorem dX8_writeName_3 : decode cX8_writeName 3 = .ok (.invokevirtual 69, 3) := by decide +kernel
theorem dX8_writeName_6 : decode cX8_writeName 6 = .ok (.aload_n 2, 1) := by decide +kernel
theorem dX8_writeName_7 : decode cX8_writeName 7 = .ok (.invokestatic 86, 3) := by decide +kernel
theorem dX8_writeName_10 : decode cX8_writeName 10 = .ok (.aload_n 2, 1) := by decide +kernel
theorem dX8_writeName_11 : decode cX8_writeName 11 = .ok (.aload_n 0, 1) := by decide +kernel
theorem dX8_writeName_12 : decode cX8_writeName 12 = .ok (.iload_n 1, 1) := by decide +kernel
theorem dX8_writeName_13 : decode cX8_writeName 13 = .ok (.iconst 3, 1) := by decide +kernel
theorem dX8_writeName_14 : decode cX8_writeName 14 = .ok (.invokevirtual 69, 3) := by decide +kernel
theorem dX8_writeName_17 : decode cX8_writeName 17 = .ok (.invokestatic 77, 3) := by decide +kernel
theorem dX8_writeName_20 : decode cX8_writeName 20 = .ok (.getfield 90, 3) := by decide +kernel
theorem dX8_writeName_23 : decode cX8_writeName 23 = .ok (.invokevirtual 94, 3) := by decide +kernel
theorem dX8_writeName_26 : decode cX8_writeName 26 = .ok (.aload_n 0, 1) := by decide +kernel
theorem dX8_writeName_27 : decode cX8_writeName 27 = .ok (.iload_n 1, 1) := by decide +kernel
theorem dX8_writeName_28 : decode cX8_writeName 28 = .ok (.iconst 4, 1) := by decide +kernel
theorem dX8_writeName_29 : decode cX8_writeName 29 = .ok (.invokevirtual 69, 3) := by decide +kernel
theorem dX8_writeName_32 : decode cX8_writeName 32 = .ok (.istore_n 3, 1) := by decide +kernel
theorem dX8_writeName_33 : decode cX8_writeName 33 = .ok (.iload_n 3, 1) := by decide +kernel
theorem dX8_writeName_34 : decode cX8_writeName 34 = .ok (.bipush 100, 2) := by decide +kernel
theorem dX8_writeName_36 : decode cX8_writeName 36 = .ok (.if_icmp .eq 14, 3) := by decide +kernel
theorem dX8_writeName_39 : decode cX8_writeName 39 = .ok (.aload_n 2, 1) := by decide +kernel
theorem dX8_writeName_40 : decode cX8_writeName 40 = .ok (.bipush 47, 2) := by decide +kernel
theorem dX8_writeName_42 : decode cX8_writeName 42 = .ok (.invokevirtual 100, 3) := by decide +kernel
theorem dX8_writeName_45 : decode cX8_writeName 45 = .ok (.iload_n 3, 1) := by decide +kernel
theorem dX8_writeName_46 : decode cX8_writeName 46 = .ok (.aload_n 2, 1) := by decide +kernel
theorem dX8_writeName_47 : decode cX8_writeName 47 = .ok (.invokestatic 86, 3) := by decide +kernel
theorem dX8_writeName_50 : decode cX8_writeName 50 = .ok (.return_, 1) := by decide +kernel
theorem dX8_spell_0 : decode cX8_spell 0 = .ok (.iconst 0, 1) := by decide +kernel
theorem dX8_spell_1 : decode cX8_spell 1 = .ok (.istore_n 3, 1) := by decide +kernel
theorem dX8_spell_2 : decode cX8_spell 2 = .ok (.iconst 0, 1) := by decide +kernel
theorem dX8_spell_3 : decode cX8_spell 3 = .ok (.istore 4, 2) := by decide +kernel
theorem dX8_spell_5 : decode cX8_spell 5 = .ok (.iload 4, 2) := by decide +kernel
theorem dX8_spell_7 : decode cX8_spell 7 = .ok (.aload_n 0, 1) := by decide +kernel
theorem dX8_spell_8 : decode cX8_spell 8 = .ok (.getfield 32, 3) := by decide +kernel
theorem dX8_spell_11 : decode cX8_spell 11 = .ok (.if_icmp .ge 33, 3) := by decide +kernel
theorem dX8_spell_14 : decode cX8_spell 14 = .ok (.iload_n 3, 1) := by decide +kernel
theorem dX8_spell_15 : decode cX8_spell 15 = .ok (.aload_n 0, 1) := by decide +kernel
theorem dX8_spell_16 : decode cX8_spell 16 = .ok (.iload 4, 2) := by decide +kernel
theorem dX8_spell_18 : decode cX8_spell 18 = .ok (.iconst 2, 1) := by decide +kernel
theorem dX8_spell_19 : decode cX8_spell 19 = .ok (.iload_n 1, 1) := by decide +kernel
theorem dX8_spell_20 : decode cX8_spell 20 = .ok (.iload_n 2, 1) := by decide +kernel
theorem dX8_spell_21 : decode cX8_spell 21 = .ok (.invokevirtual 104, 3) := by decide +kernel
theorem dX8_spell_24 : decode cX8_spell 24 = .ok (.iadd, 1) := by decide +kernel
theorem dX8_spell_25 : decode cX8_spell 25 = .ok (.istore_n 3, 1) := by decide +kernel
theorem dX8_spell_26 : decode cX8_spell 26 = .ok (.iload_n 3, 1) := by decide +kernel
theorem dX8_spell_27 : decode cX8_spell 27 = .ok (.aload_n 0, 1) := by decide +kernel
theorem dX8_spell_28 : decode cX8_spell 28 = .ok (.iload 4, 2) := by decide +kernel
theorem dX8_spell_30 : decode cX8_spell 30 = .ok (.iconst 4, 1) := by decide +kernel
theorem dX8_spell_31 : decode cX8_spell 31 = .ok (.iload_n 1, 1) := by decide +kernel
theorem dX8_spell_32 : decode cX8_spell 32 = .ok (.iload_n 2, 1) := by decide +kernel
theorem dX8_spell_33 : decode cX8_spell 33 = .ok (.invokevirtual 104, 3) := by decide +kernel
theorem dX8_spell_36 : decode cX8_spell 36 = .ok (.iadd, 1) := by decide +kernel
theorem dX8_spell_37 : decode cX8_spell 37 = .ok (.istore_n 3, 1) := by decide +kernel
theorem dX8_spell_38 : decode cX8_spell 38 = .ok (.iinc 4 1, 3) := by decide +kernel
theorem dX8_spell_41 : decode cX8_spell 41 = .ok (.goto (-36), 3) := by decide +kernel
theorem dX8_spell_44 : decode cX8_spell 44 = .ok (.iload_n 3, 1) := by decide +kernel
theorem dX8_spell_45 : decode cX8_spell 45 = .ok (.ireturn, 1) := by decide +kernel
theorem dX8_addTo_0 : decode cX8_addTo 0 = .ok (.ldc2_w 108, 3) := by decide +kernel
theorem dX8_addTo_3 : decode cX8_addTo 3 = .ok (.lload_n 1, 1) := by decide +kernel
theorem dX8_addTo_4 : decode cX8_addTo 4 = .ok (.lmul, 1) := by decide +kernel
theorem dX8_addTo_5 : decode cX8_addTo 5 = .ok (.aload_n 0, 1) := by decide +kernel
theorem dX8_addTo_6 : decode cX8_addTo 6 = .ok (.getfield 19, 3) := by decide +kernel
theorem dX8_addTo_9 : decode cX8_addTo 9 = .ok (.i2l, 1) := by decide +kernel
theorem dX8_addTo_10 : decode cX8_addTo 10 = .ok (.ladd, 1) := by decide +kernel
theorem dX8_addTo_11 : decode cX8_addTo 11 = .ok (.lstore_n 3, 1) := by decide +kernel
theorem dX8_addTo_12 : decode cX8_addTo 12 = .ok (.iconst 0, 1) := by decide +kernel
theorem dX8_addTo_13 : decode cX8_addTo 13 = .ok (.istore 5, 2) := by decide +kernel
theorem dX8_addTo_15 : decode cX8_addTo 15 = .ok (.iload 5, 2) := by decide +kernel
theorem dX8_addTo_17 : decode cX8_addTo 17 = .ok (.aload_n 0, 1) := by decide +kernel
theorem dX8_addTo_18 : decode cX8_addTo 18 = .ok (.getfield 19, 3) := by decide +kernel
theorem dX8_addTo_21 : decode cX8_addTo 21 = .ok (.if_icmp .ge 59, 3) := by decide +kernel
theorem dX8_addTo_24 : decode cX8_addTo 24 = .ok (.aload_n 0, 1) := by decide +kernel
theorem dX8_addTo_25 : decode cX8_addTo 25 = .ok (.iload 5, 2) := by decide +kernel
theorem dX8_addTo_27 : decode cX8_addTo 27 = .ok (.invokevirtual 50, 3) := by decide +kernel
theorem dX8_addTo_30 : decode cX8_addTo 30 = .ok (.istore 6, 2) := by decide +kernel
theorem dX8_addTo_32 : decode cX8_addTo 32 = .ok (.ldc2_w 108, 3) := by decide +kernel
theorem dX8_addTo_35 : decode cX8_addTo 35 = .ok (.lload_n 3, 1) := by decide +kernel
theorem dX8_addTo_36 : decode cX8_addTo 36 = .ok (.lmul, 1) := by decide +kernel
theorem dX8_addTo_37 : decode cX8_addTo 37 = .ok (.iload 6, 2) := by decide +kernel
theorem dX8_addTo_39 : decode cX8_addTo 39 = .ok (.i2l, 1) := by decide +kernel
theorem dX8_addTo_40 : decode cX8_addTo 40 = .ok (.ladd, 1) := by decide +kernel
theorem dX8_addTo_41 : decode cX8_addTo 41 = .ok (.lstore_n 3, 1) := by decide +kernel
theorem dX8_addTo_42 : decode cX8_addTo 42 = .ok (.iconst 0, 1) := by decide +kernel
theorem dX8_addTo_43 : decode cX8_addTo 43 = .ok (.istore 7, 2) := by decide +kernel
theorem dX8_addTo_45 : decode cX8_addTo 45 = .ok (.iload 7, 2) := by decide +kernel
theorem dX8_addTo_47 : decode cX8_addTo 47 = .ok (.iload 6, 2) := by decide +kernel
theorem dX8_addTo_49 : decode cX8_addTo 49 = .ok (.if_icmp .ge 25, 3) := by decide +kernel
theorem dX8_addTo_52 : decode cX8_addTo 52 = .ok (.ldc2_w 108, 3) := by decide +kernel
theorem dX8_addTo_55 : decode cX8_addTo 55 = .ok (.lload_n 3, 1) := by decide +kernel
theorem dX8_addTo_56 : decode cX8_addTo 56 = .ok (.lmul, 1) := by decide +kernel
theorem dX8_addTo_57 : decode cX8_addTo 57 = .ok (.aload_n 0, 1) := by decide +kernel
theorem dX8_addTo_58 : decode cX8_addTo 58 = .ok (.iload 5, 2) := by decide +kernel
theorem dX8_addTo_60 : decode cX8_addTo 60 = .ok (.iload 7, 2) := by decide +kernel
theorem dX8_addTo_62 : decode cX8_addTo 62 = .ok (.invokevirtual 110, 3) := by decide +kernel
theorem dX8_addTo_65 : decode cX8_addTo 65 = .ok (.i2l, 1) := by decide +kernel
theorem dX8_addTo_66 : decode cX8_addTo 66 = .ok (.ladd, 1) := by decide +kernel
theorem dX8_addTo_67 : decode cX8_addTo 67 = .ok (.lstore_n 3, 1) := by decide +kernel
theorem dX8_addTo_68 : decode cX8_addTo 68 = .ok (.iinc 7 1, 3) := by decide +kernel
theorem dX8_addTo_71 : decode cX8_addTo 71 = .ok (.goto (-26), 3) := by decide +kernel
theorem dX8_addTo_74 : decode cX8_addTo 74 = .ok (.iinc 5 1, 3) := by decide +kernel
theorem dX8_addTo_77 : decode cX8_addTo 77 = .ok (.goto (-62), 3) := by decide +kernel
theorem dX8_addTo_80 : decode cX8_addTo 80 = .ok (.iconst 0, 1) := by decide +kernel
theorem dX8_addTo_81 : decode cX8_addTo 81 = .ok (.istore 5, 2) := by decide +kernel
theorem dX8_addTo_83 : decode cX8_addTo 83 = .ok (.iload 5, 2) := by decide +kernel
theorem dX8_addTo_85 : decode cX8_addTo 85 = .ok (.aload_n 0, 1) := by decide +kernel
theorem dX8_addTo_86 : decode cX8_addTo 86 = .ok (.getfield 32, 3) := by decide +kernel
theorem dX8_addTo_89 : decode cX8_addTo 89 = .ok (.if_icmp .ge 40, 3) := by decide +kernel
theorem dX8_addTo_92 : decode cX8_addTo 92 = .ok (.iconst 0, 1) := by decide +kernel
theorem dX8_addTo_93 : decode cX8_addTo 93 = .ok (.istore 6, 2) := by decide +kernel
theorem dX8_addTo_95 : decode cX8_addTo 95 = .ok (.iload 6, 2) := by decide +kernel
theorem dX8_addTo_97 : decode cX8_addTo 97 = .ok (.iconst 5, 1) := by decide +kernel
theorem dX8_addTo_98 : decode cX8_addTo 98 = .ok (.if_icmp .ge 25, 3) := by decide +kernel
theorem dX8_addTo_101 : decode cX8_addTo 101 = .ok (.ldc2_w 108, 3) := by decide +kernel
theorem dX8_addTo_104 : decode cX8_addTo 104 = .ok (.lload_n 3, 1) := by decide +kernel
theorem dX8_addTo_105 : decode cX8_addTo 105 = .ok (.lmul, 1) := by decide +kernel
theorem dX8_addTo_106 : decode cX8_addTo 106 = .ok (.aload_n 0, 1) := by decide +kernel
theorem dX8_addTo_107 : decode cX8_addTo 107 = .ok (.iload 5, 2) := by decide +kernel
theorem dX8_addTo_109 : decode cX8_addTo 109 = .ok (.iload 6, 2) := by decide +kernel
theorem dX8_addTo_111 : decode cX8_addTo 111 = .ok (.invokevirtual 69, 3) := by decide +kernel
theorem dX8_addTo_114 : decode cX8_addTo 114 = .ok (.i2l, 1) := by decide +kernel
theorem dX8_addTo_115 : decode cX8_addTo 115 = .ok (.ladd, 1) := by decide +kernel
theorem dX8_addTo_116 : decode cX8_addTo 116 = .ok (.lstore_n 3, 1) := by decide +kernel
theorem dX8_addTo_117 : decode cX8_addTo 117 = .ok (.iinc 6 1, 3) := by decide +kernel
theorem dX8_addTo_120 : decode cX8_addTo 120 = .ok (.goto (-25), 3) := by decide +kernel
theorem dX8_addTo_123 : decode cX8_addTo 123 = .ok (.iinc 5 1, 3) := by decide +kernel
theorem dX8_addTo_126 : decode cX8_addTo 126 = .ok (.goto (-43), 3) := by decide +kernel
theorem dX8_addTo_129 : decode cX8_addTo 129 = .ok (.lload_n 3, 1) := by decide +kernel
theorem dX8_addTo_130 : decode cX8_addTo 130 = .ok (.lreturn, 1) := by decide +kernel
theorem dX8_spellField_0 : decode cX8_spellField 0 = .ok (.aload_n 0, 1) := by decide +kernel
theorem dX8_spellField_1 : decode cX8_spellField 1 = .ok (.iload_n 1, 1) := by decide +kernel
theorem dX8_spellField_2 : decode cX8_spellField 2 = .ok (.iload_n 2, 1) := by decide +kernel
theorem dX8_spellField_3 : decode cX8_spellField 3 = .ok (.invokevirtual 69, 3) := by decide +kernel
theorem dX8_spellField_6 : decode cX8_spellField 6 = .ok (.istore 5, 2) := by decide +kernel
theorem dX8_spellField_8 : decode cX8_spellField 8 = .ok (.iload 5, 2) := by decide +kernel
theorem dX8_spellField_10 : decode cX8_spellField 10 = .ok (.bipush 100, 2) := by decide +kernel
theorem dX8_spellField_12 : decode cX8_spellField 12 = .ok (.if_icmp .ne 5, 3) := by decide +kernel
theorem dX8_spellField_15 : decode cX8_spellField 15 = .ok (.iconst 0, 1) := by decide +kernel
theorem dX8_spellField_16 : decode cX8_spellField 16 = .ok (.ireturn, 1) := by decide +kernel
theorem dX8_spellField_17 : decode cX8_spellField 17 = .ok (.iload 5, 2) := by decide +kernel
theorem dX8_spellField_19 : decode cX8_spellField 19 = .ok (.iload_n 3, 1) := by decide +kernel
theorem dX8_spellField_20 : decode cX8_spellField 20 = .ok (.invokestatic 113, 3) := by decide +kernel
theorem dX8_spellField_23 : decode cX8_spellField 23 = .ok (.istore 6, 2) := by decide +kernel
theorem dX8_spellField_25 : decode cX8_spellField 25 = .ok (.iload 6, 2) := by decide +kernel
theorem dX8_spellField_27 : decode cX8_spellField 27 = .ok (.aload_n 0, 1) := by decide +kernel
theorem dX8_spellField_28 : decode cX8_spellField 28 = .ok (.getfield 35, 3) := by decide +kernel
theorem dX8_spellField_31 : decode cX8_spellField 31 = .ok (.iload 4, 2) := by decide +kernel
theorem dX8_spellField_33 : decode cX8_spellField 33 = .ok (.invokestatic 116, 3) := by decide +kernel
theorem dX8_spellField_36 : decode cX8_spellField 36 = .ok (.istore 7, 2) := by decide +kernel
theorem dX8_spellField_38 : decode cX8_spellField 38 = .ok (.aload_n 0, 1) := by decide +kernel
theorem dX8_spellField_39 : decode cX8_spellField 39 = .ok (.iload_n 1, 1) := by decide +kernel
theorem dX8_spellField_40 : decode cX8_spellField 40 = .ok (.iload_n 2, 1) := by decide +kernel
theorem dX8_spellField_41 : decode cX8_spellField 41 = .ok (.iload 7, 2) := by decide +kernel
theorem dX8_spellField_43 : decode cX8_spellField 43 = .ok (.invokevirtual 46, 3) := by decide +kernel
theorem dX8_spellField_46 : decode cX8_spellField 46 = .ok (.iload 7, 2) := by decide +kernel
theorem dX8_spellField_48 : decode cX8_spellField 48 = .ok (.iload 5, 2) := by decide +kernel
theorem dX8_spellField_50 : decode cX8_spellField 50 = .ok (.if_icmp .ne 7, 3) := by decide +kernel
theorem dX8_spellField_53 : decode cX8_spellField 53 = .ok (.iconst 0, 1) := by decide +kernel
theorem dX8_spellField_54 : decode cX8_spellField 54 = .ok (.goto 4, 3) := by decide +kernel
theorem dX8_spellField_57 : decode cX8_spellField 57 = .ok (.iconst 1, 1) := by decide +kernel
theorem dX8_spellField_58 : decode cX8_spellField 58 = .ok (.ireturn, 1) := by decide +kernel
theorem dX8_startOf_0 : decode cX8_startOf 0 = .ok (.iload_n 1, 1) := by decide +kernel
theorem dX8_startOf_1 : decode cX8_startOf 1 = .ok (.ifCond .lt 21, 3) := by decide +kernel
theorem dX8_startOf_4 : decode cX8_startOf 4 = .ok (.iload_n 1, 1) := by decide +kernel
theorem dX8_startOf_5 : decode cX8_startOf 5 = .ok (.aload_n 0, 1) := by decide +kernel
theorem dX8_startOf_6 : decode cX8_startOf 6 = .ok (.getfield 15, 3) := by decide +kernel
theorem dX8_startOf_9 : decode cX8_startOf 9 = .ok (.arraylength, 1) := by decide +kernel
theorem dX8_startOf_10 : decode cX8_startOf 10 = .ok (.if_icmp .ge 12, 3) := by decide +kernel
theorem dX8_startOf_13 : decode cX8_startOf 13 = .ok (.aload_n 0, 1) := by decide +kernel
theorem dX8_startOf_14 : decode cX8_startOf 14 = .ok (.getfield 15, 3) := by decide +kernel
theorem dX8_startOf_17 : decode cX8_startOf 17 = .ok (.iload_n 1, 1) := by decide +kernel
theorem dX8_startOf_18 : decode cX8_startOf 18 = .ok (.iaload, 1) := by decide +kernel
theorem dX8_startOf_19 : decode cX8_startOf 19 = .ok (.goto 4, 3) := by decide +kernel
theorem dX8_startOf_22 : decode cX8_startOf 22 = .ok (.iconst 0, 1) := by decide +kernel
theorem dX8_startOf_23 : decode cX8_startOf 23 = .ok (.ireturn, 1) := by decide +kernel
theorem dX8_set_0 : decode cX8_set 0 = .ok (.iload_n 1, 1) := by decide +kernel
theorem dX8_set_1 : decode cX8_set 1 = .ok (.iconst 5, 1) := by decide +kernel
theorem dX8_set_2 : decode cX8_set 2 = .ok (.imul, 1) := by decide +kernel
theorem dX8_set_3 : decode cX8_set 3 = .ok (.iload_n 2, 1) := by decide +kernel
theorem dX8_set_4 : decode cX8_set 4 = .ok (.iadd, 1) := by decide +kernel
theorem dX8_set_5 : decode cX8_set 5 = .ok (.istore 4, 2) := by decide +kernel
theorem dX8_set_7 : decode cX8_set 7 = .ok (.iload 4, 2) := by decide +kernel
theorem dX8_set_9 : decode cX8_set 9 = .ok (.ifCond .lt 21, 3) := by decide +kernel
theorem dX8_set_12 : decode cX8_set 12 = .ok (.iload 4, 2) := by decide +kernel
theorem dX8_set_14 : decode cX8_set 14 = .ok (.aload_n 0, 1) := by decide +kernel
theorem dX8_set_15 : decode cX8_set 15 = .ok (.getfield 23, 3) := by decide +kernel
theorem dX8_set_18 : decode cX8_set 18 = .ok (.arraylength, 1) := by decide +kernel
theorem dX8_set_19 : decode cX8_set 19 = .ok (.if_icmp .ge 11, 3) := by decide +kernel
theorem dX8_set_22 : decode cX8_set 22 = .ok (.aload_n 0, 1) := by decide +kernel
theorem dX8_set_23 : decode cX8_set 23 = .ok (.getfield 23, 3) := by decide +kernel
theorem dX8_set_26 : decode cX8_set 26 = .ok (.iload 4, 2) := by decide +kernel
theorem dX8_set_28 : decode cX8_set 28 = .ok (.iload_n 3, 1) := by decide +kernel
theorem dX8_set_29 : decode cX8_set 29 = .ok (.iastore, 1) := by decide +kernel
theorem dX8_set_30 : decode cX8_set 30 = .ok (.return_, 1) := by decide +kernel
theorem dX8_isUpTo_0 : decode cX8_isUpTo 0 = .ok (.aload_n 0, 1) := by decide +kernel
theorem dX8_isUpTo_1 : decode cX8_isUpTo 1 = .ok (.iload_n 1, 1) := by decide +kernel
theorem dX8_isUpTo_2 : decode cX8_isUpTo 2 = .ok (.iconst 0, 1) := by decide +kernel
theorem dX8_isUpTo_3 : decode cX8_isUpTo 3 = .ok (.invokevirtual 69, 3) := by decide +kernel
theorem dX8_isUpTo_6 : decode cX8_isUpTo 6 = .ok (.istore 4, 2) := by decide +kernel
theorem dX8_isUpTo_8 : decode cX8_isUpTo 8 = .ok (.iload 4, 2) := by decide +kernel
theorem dX8_isUpTo_10 : decode cX8_isUpTo 10 = .ok (.iload_n 2, 1) := by decide +kernel
theorem dX8_isUpTo_11 : decode cX8_isUpTo 11 = .ok (.if_icmp .lt 19, 3) := by decide +kernel
theorem dX8_isUpTo_14 : decode cX8_isUpTo 14 = .ok (.iload 4, 2) := by decide +kernel
theorem dX8_isUpTo_16 : decode cX8_isUpTo 16 = .ok (.iload_n 2, 1) := by decide +kernel
theorem dX8_isUpTo_17 : decode cX8_isUpTo 17 = .ok (.if_icmp .ne 17, 3) := by decide +kernel
theorem dX8_isUpTo_20 : decode cX8_isUpTo 20 = .ok (.aload_n 0, 1) := by decide +kernel
theorem dX8_isUpTo_21 : decode cX8_isUpTo 21 = .ok (.iload_n 1, 1) := by decide +kernel
theorem dX8_isUpTo_22 : decode cX8_isUpTo 22 = .ok (.iconst 1, 1) := by decide +kernel
theorem dX8_isUpTo_23 : decode cX8_isUpTo 23 = .ok (.invokevirtual 69, 3) := by decide +kernel
theorem dX8_isUpTo_26 : decode cX8_isUpTo 26 = .ok (.iload_n 3, 1) := by decide +kernel
theorem dX8_isUpTo_27 : decode cX8_isUpTo 27 = .ok (.if_icmp .gt 7, 3) := by decide +kernel
theorem dX8_isUpTo_30 : decode cX8_isUpTo 30 = .ok (.iconst 1, 1) := by decide +kernel
theorem dX8_isUpTo_31 : decode cX8_isUpTo 31 = .ok (.goto 4, 3) := by decide +kernel
theorem dX8_isUpTo_34 : decode cX8_isUpTo 34 = .ok (.iconst 0, 1) := by decide +kernel
theorem dX8_isUpTo_35 : decode cX8_isUpTo 35 = .ok (.ireturn, 1) := by decide +kernel
end
section
theorem dX9_init_0 : decode cX9_init 0 = .ok (.aload_n 0, 1) := by decide +kernel
theorem dX9_init_1 : decode cX9_init 1 = .ok (.invokespecial 1, 3) := by decide +kernel
theorem dX9_init_4 : decode cX9_init 4 = .ok (.aload_n 0, 1) := by decide +kernel
theorem dX9_init_5 : decode cX9_init 5 = .ok (.new 7, 3) := by decide +kernel
theorem dX9_init_8 : decode cX9_init 8 = .ok (.dup, 1) := by decide +kernel
theorem dX9_init_9 : decode cX9_init 9 = .ok (.invokespecial 9, 3) := by decide +kernel
theorem dX9_init_12 : decode cX9_init 12 = .ok (.putfield 10, 3) := by decide +kernel
theorem dX9_init_15 : decode cX9_init 15 = .ok (.aload_n 0, 1) := by decide +kernel
theorem dX9_init_16 : decode cX9_init 16 = .ok (.new 7, 3) := by decide +kernel
theorem dX9_init_19 : decode cX9_init 19 = .ok (.dup, 1) := by decide +kernel
theorem dX9_init_20 : decode cX9_init 20 = .ok (.invokespecial 9, 3) := by decide +kernel
theorem dX9_init_23 : decode cX9_init 23 = .ok (.putfield 16, 3) := by decide +kernel
theorem dX9_init_26 : decode cX9_init 26 = .ok (.aload_n 0, 1) := by decide +kernel
theorem dX9_init_27 : decode cX9_init 27 = .ok (.new 19, 3) := by decide +kernel
theorem dX9_init_30 : decode cX9_init 30 = .ok (.dup, 1) := by decide +kernel
theorem dX9_init_31 : decode cX9_init 31 = .ok (.invokespecial 21, 3) := by decide +kernel
theorem dX9_init_34 : decode cX9_init 34 = .ok (.putfield 22, 3) := by decide +kernel
theorem dX9_init_37 : decode cX9_init 37 = .ok (.aload_n 0, 1) := by decide +kernel
theorem dX9_init_38 : decode cX9_init 38 = .ok (.new 19, 3) := by decide +kernel
theorem dX9_init_41 : decode cX9_init 41 = .ok (.dup, 1) := by decide +kernel
theorem dX9_init_42 : decode cX9_init 42 = .ok (.invokespecial 21, 3) := by decide +kernel
theorem dX9_init_45 : decode cX9_init 45 = .ok (.putfield 26, 3) := by decide +kernel
theorem dX9_init_48 : decode cX9_init 48 = .ok (.aload_n 0, 1) := by decide +kernel
theorem dX9_init_49 : decode cX9_init 49 = .ok (.new 29, 3) := by decide +kernel
theorem dX9_init_52 : decode cX9_init 52 = .ok (.dup, 1) := by decide +kernel
theorem dX9_init_53 : decode cX9_init 53 = .ok (.invokespecial 31, 3) := by decide +kernel
theorem dX9_init_56 : decode cX9_init 56 = .ok (.putfield 32, 3) := by decide +kernel
theorem dX9_init_59 : decode cX9_init 59 = .ok (.aload_n 0, 1) := by decide +kernel
theorem dX9_init_60 : decode cX9_init 60 = .ok (.new 36, 3) := by decide +kernel
theorem dX9_init_63 : decode cX9_init 63 = .ok (.dup, 1) := by decide +kernel
theorem dX9_init_64 : decode cX9_init 64 = .ok (.aload_n 0, 1) := by decide +kernel
theorem dX9_init_65 : decode cX9_init 65 = .ok (.getfield 10, 3) := by decide +kernel
theorem dX9_init_68 : decode cX9_init 68 = .ok (.invokespecial 38, 3) := by decide +kernel
theorem dX9_init_71 : decode cX9_init 71 = .ok (.putfield 41, 3) := by decide +kernel
theorem dX9_init_74 : decode cX9_init 74 = .ok (.aload_n 0, 1) := by decide +kernel
theorem dX9_init_75 : decode cX9_init 75 = .ok (.new 45, 3) := by decide +kernel
theorem dX9_init_78 : decode cX9_init 78 = .ok (.dup, 1) := by decide +kernel
theorem dX9_init_79 : decode cX9_init 79 = .ok (.aload_n 0, 1) := by decide +kernel
theorem dX9_init_80 : decode cX9_init 80 = .ok (.getfield 22, 3) := by decide +kernel
theorem dX9_init_83 : decode cX9_init 83 = .ok (.invokespecial 47, 3) := by decide +kernel
theorem dX9_init_86 : decode cX9_init 86 = .ok (.putfield 50, 3) := by decide +kernel
theorem dX9_init_89 : decode cX9_init 89 = .ok (.aload_n 0, 1) := by decide +kernel
theorem dX9_init_90 : decode cX9_init 90 = .ok (.iconst 1, 1) := by decide +kernel
theorem dX9_init_91 : decode cX9_init 91 = .ok (.putfield 54, 3) := by decide +kernel
theorem dX9_init_94 : decode cX9_init 94 = .ok (.aload_n 0, 1) := by decide +kernel
theorem dX9_init_95 : decode cX9_init 95 = .ok (.iconst 0, 1) := by decide +kernel
theorem dX9_init_96 : decode cX9_init 96 = .ok (.putfield 58, 3) := by decide +kernel
theorem dX9_init_99 : decode cX9_init 99 = .ok (.aload_n 0, 1) := by decide +kernel
theorem dX9_init_100 : decode cX9_init 100 = .ok (.sipush 200, 3) := by decide +kernel
theorem dX9_init_103 : decode cX9_init 103 = .ok (.putfield 61, 3) := by decide +kernel
theorem dX9_init_106 : decode cX9_init 106 = .ok (.return_, 1) := by decide +kernel
theorem dX9_type_0 : decode cX9_type 0 = .ok (.iload_n 1, 1) := by decide +kernel
theorem dX9_type_1 : decode cX9_type 1 = .ok (.bipush 32, 2) := by decide +kernel
theorem dX9_type_3 : decode cX9_type 3 = .ok (.if_icmp .lt 9, 3) := by decide +kernel
theorem dX9_type_6 : decode cX9_type 6 = .ok (.iload_n 1, 1) := by decide +kernel
theorem dX9_type_7 : decode cX9_type 7 = .ok (.bipush 126, 2) := by decide +kernel
theorem dX9_type_9 : decode cX9_type 9 = .ok (.if_icmp .le 13, 3) := by decide +kernel
theorem dX9_type_12 : decode cX9_type 12 = .ok (.new 65, 3) := by decide +kernel
theorem dX9_type_15 : decode cX9_type 15 = .ok (.dup, 1) := by decide +kernel
theorem dX9_type_16 : decode cX9_type 16 = .ok (.ldc 67, 2) := by decide +kernel
theorem dX9_type_18 : decode cX9_type 18 = .ok (.invokespecial 69, 3) := by decide +kernel
theorem dX9_type_21 : decode cX9_type 21 = .ok (.athrow, 1) := by decide +kernel
theorem dX9_type_22 : decode cX9_type 22 = .ok (.aload_n 0, 1) := by decide +kernel
theorem dX9_type_23 : decode cX9_type 23 = .ok (.getfield 10, 3) := by decide +kernel
theorem dX9_type_26 : decode cX9_type 26 = .ok (.invokevirtual 72, 3) := by decide +kernel
theorem dX9_type_29 : decode cX9_type 29 = .ok (.sipush 200, 3) := by decide +kernel
theorem dX9_type_32 : decode cX9_type 32 = .ok (.if_icmp .lt 13, 3) := by decide +kernel
theorem dX9_type_35 : decode cX9_type 35 = .ok (.new 76, 3) := by decide +kernel
theorem dX9_type_38 : decode cX9_type 38 = .ok (.dup, 1) := by decide +kernel
theorem dX9_type_39 : decode cX9_type 39 = .ok (.ldc 78, 2) := by decide +kernel
theorem dX9_type_41 : decode cX9_type 41 = .ok (.invokespecial 80, 3) := by decide +kernel
theorem dX9_type_44 : decode cX9_type 44 = .ok (.athrow, 1) := by decide +kernel
theorem dX9_type_45 : decode cX9_type 45 = .ok (.aload_n 0, 1) := by decide +kernel
theorem dX9_type_46 : decode cX9_type 46 = .ok (.getfield 10, 3) := by decide +kernel
theorem dX9_type_49 : decode cX9_type 49 = .ok (.iload_n 1, 1) := by decide +kernel
theorem dX9_type_50 : decode cX9_type 50 = .ok (.i2c, 1) := by decide +kernel
theorem dX9_type_51 : decode cX9_type 51 = .ok (.invokevirtual 81, 3) := by decide +kernel
theorem dX9_type_54 : decode cX9_type 54 = .ok (.aload_n 0, 1) := by decide +kernel
theorem dX9_type_55 : decode cX9_type 55 = .ok (.getfield 10, 3) := by decide +kernel
theorem dX9_type_58 : decode cX9_type 58 = .ok (.invokevirtual 72, 3) := by decide +kernel
theorem dX9_type_61 : decode cX9_type 61 = .ok (.ireturn, 1) := by decide +kernel
theorem dX9_clearText_0 : decode cX9_clearText 0 = .ok (.aload_n 0, 1) := by decide +kernel
theorem dX9_clearText_1 : decode cX9_clearText 1 = .ok (.getfield 10, 3) := by decide +kernel
theorem dX9_clearText_4 : decode cX9_clearText 4 = .ok (.invokevirtual 72, 3) := by decide +kernel
theorem dX9_clearText_7 : decode cX9_clearText 7 = .ok (.istore_n 1, 1) := by decide +kernel
theorem dX9_clearText_8 : decode cX9_clearText 8 = .ok (.aload_n 0, 1) := by decide +kernel
theorem dX9_clearText_9 : decode cX9_clearText 9 = .ok (.getfield 10, 3) := by decide +kernel
theorem dX9_clearText_12 : decode cX9_clearText 12 = .ok (.iconst 0, 1) := by decide +kernel
theorem dX9_clearText_13 : decode cX9_clearText 13 = .ok (.invokevirtual 85, 3) := by decide +kernel
theorem dX9_clearText_16 : decode cX9_clearText 16 = .ok (.iload_n 1, 1) := by decide +kernel
theorem dX9_clearText_17 : decode cX9_clearText 17 = .ok (.ireturn, 1) := by decide +kernel
theorem dX9_read_0 : decode cX9_read 0 = .ok (.aload_n 0, 1) := by decide +kernel
theorem dX9_read_1 : decode cX9_read 1 = .ok (.getfield 41, 3) := by decide +kernel
theorem dX9_read_4 : decode cX9_read 4 = .ok (.aload_n 0, 1) := by decide +kernel
theorem dX9_read_5 : decode cX9_read 5 = .ok (.getfield 26, 3) := by decide +kernel
theorem dX9_read_8 : decode cX9_read 8 = .ok (.invokevirtual 89, 3) := by decide +kernel
theorem dX9_read_11 : decode cX9_read 11 = .ok (.istore_n 1, 1) := by decide +kernel
theorem dX9_read_12 : decode cX9_read 12 = .ok (.iload_n 1, 1) := by decide +kernel
theorem dX9_read_13 : decode cX9_read 13 = .ok (.iconst (-1), 1) := by decide +kernel
theorem dX9_read_14 : decode cX9_read 14 = .ok (.if_icmp .eq 7, 3) := by decide +kernel
theorem dX9_read_17 : decode cX9_read 17 = .ok (.iconst (-1), 1) := by decide +kernel
theorem dX9_read_18 : decode cX9_read 18 = .ok (.iload_n 1, 1) := by decide +kernel
theorem dX9_read_19 : decode cX9_read 19 = .ok (.isub, 1) := by decide +kernel
theorem dX9_read_20 : decode cX9_read 20 = .ok (.ireturn, 1) := by decide +kernel
theorem dX9_read_21 : decode cX9_read 21 = .ok (.aload_n 0, 1) := by decide +kernel
theorem dX9_read_22 : decode cX9_read 22 = .ok (.getfield 32, 3) := by decide +kernel
theorem dX9_read_25 : decode cX9_read 25 = .ok (.aload_n 0, 1) := by decide +kernel
theorem dX9_read_26 : decode cX9_read 26 = .ok (.getfield 22, 3) := by decide +kernel
theorem dX9_read_29 : decode cX9_read 29 = .ok (.invokevirtual 93, 3) := by decide +kernel
theorem dX9_read_32 : decode cX9_read 32 = .ok (.aload_n 0, 1) := by decide +kernel
theorem dX9_read_33 : decode cX9_read 33 = .ok (.getfield 22, 3) := by decide +kernel
theorem dX9_read_36 : decode cX9_read 36 = .ok (.aload_n 0, 1) := by decide +kernel
theorem dX9_read_37 : decode cX9_read 37 = .ok (.getfield 26, 3) := by decide +kernel
theorem dX9_read_40 : decode cX9_read 40 = .ok (.invokevirtual 96, 3) := by decide +kernel
theorem dX9_read_43 : decode cX9_read 43 = .ok (.aload_n 0, 1) := by decide +kernel
theorem dX9_read_44 : decode cX9_read 44 = .ok (.aload_n 0, 1) := by decide +kernel
theorem dX9_read_45 : decode cX9_read 45 = .ok (.getfield 22, 3) := by decide +kernel
theorem dX9_read_48 : decode cX9_read 48 = .ok (.invokestatic 99, 3) := by decide +kernel
theorem dX9_read_51 : decode cX9_read 51 = .ok (.invokevirtual 104, 3) := by decide +kernel
theorem dX9_read_54 : decode cX9_read 54 = .ok (.aload_n 0, 1) := by decide +kernel
theorem dX9_read_55 : decode cX9_read 55 = .ok (.getfield 10, 3) := by decide +kernel
theorem dX9_read_58 : decode cX9_read 58 = .ok (.iconst 0, 1) := by decide +kernel
theorem dX9_read_59 : decode cX9_read 59 = .ok (.invokevirtual 85, 3) := by decide +kernel
theorem dX9_read_62 : decode cX9_read 62 = .ok (.aload_n 0, 1) := by decide +kernel
theorem dX9_read_63 : decode cX9_read 63 = .ok (.getfield 22, 3) := by decide +kernel
theorem dX9_read_66 : decode cX9_read 66 = .ok (.invokevirtual 107, 3) := by decide +kernel
theorem dX9_read_69 : decode cX9_read 69 = .ok (.ireturn, 1) := by decide +kernel
theorem dX9_setSimple_0 : decode cX9_setSimple 0 = .ok (.aload_n 0, 1) := by decide +kernel
theorem dX9_setSimple_1 : decode cX9_setSimple 1 = .ok (.getfield 54, 3) := by decide +kernel
theorem dX9_setSimple_4 : decode cX9_setSimple 4 = .ok (.istore_n 2, 1) := by decide +kernel
theorem dX9_setSimple_5 : decode cX9_setSimple 5 = .ok (.aload_n 0, 1) := by decide +kernel
theorem dX9_setSimple_6 : decode cX9_setSimple 6 = .ok (.iload_n 1, 1) := by decide +kernel
theorem dX9_setSimple_7 : decode cX9_setSimple 7 = .ok (.putfield 54, 3) := by decide +kernel
theorem dX9_setSimple_10 : decode cX9_setSimple 10 = .ok (.iload_n 2, 1) := by decide +kernel
theorem dX9_setSimple_11 : decode cX9_setSimple 11 = .ok (.ireturn, 1) := by decide +kernel
theorem dX9_setFlats_0 : decode cX9_setFlats 0 = .ok (.aload_n 0, 1) := by decide +kernel
theorem dX9_setFlats_1 : decode cX9_setFlats 1 = .ok (.getfield 58, 3) := by decide +kernel
theorem dX9_setFlats_4 : decode cX9_setFlats 4 = .ok (.istore_n 2, 1) := by decide +kernel
theorem dX9_setFlats_5 : decode cX9_setFlats 5 = .ok (.aload_n 0, 1) := by decide +kernel
theorem dX9_setFlats_6 : decode cX9_setFlats 6 = .ok (.iload_n 1, 1) := by decide +kernel
theorem dX9_setFlats_7 : decode cX9_setFlats 7 = .ok (.putfield 58, 3) := by decide +kernel
theorem dX9_setFlats_10 : decode cX9_setFlats 10 = .ok (.iload_n 2, 1) := by decide +kernel
theorem dX9_setFlats_11 : decode cX9_setFlats 11 = .ok (.ireturn, 1) := by decide +kernel
theorem dX9_setWidth_0 : decode cX9_setWidth 0 = .ok (.iload_n 1, 1) := by decide +kernel
theorem dX9_setWidth_1 : decode cX9_setWidth 1 = .ok (.bipush 10, 2) := by decide +kernel
theorem dX9_setWidth_3 : decode cX9_setWidth 3 = .ok (.if_icmp .lt 10, 3) := by decide +kernel
theorem dX9_setWidth_6 : decode cX9_setWidth 6 = .ok (.iload_n 1, 1) := by decide +kernel
theorem dX9_setWidth_7 : decode cX9_setWidth 7 = .ok (.sipush 200, 3) := by decide +kernel
theorem dX9_setWidth_10 : decode cX9_setWidth 10 = .ok (.if_icmp .le 13, 3) := by decide +kernel
theorem dX9_setWidth_13 : decode cX9_setWidth 13 = .ok (.new 65, 3) := by decide +kernel
theorem dX9_setWidth_16 : decode cX9_setWidth 16 = .ok (.dup, 1) := by decide +kernel
theorem dX9_setWidth_17 : decode cX9_setWidth 17 = .ok (.ldc 110, 2) := by decide +kernel
theorem dX9_setWidth_19 : decode cX9_setWidth 19 = .ok (.invokespecial 69, 3) := by decide +kernel
theorem dX9_setWidth_22 : decode cX9_setWidth 22 = .ok (.athrow, 1) := by decide +kernel
theorem dX9_setWidth_23 : decode cX9_setWidth 23 = .ok (.aload_n 0, 1) := by decide +kernel
theorem dX9_setWidth_24 : decode cX9_setWidth 24 = .ok (.getfield 61, 3) := by decide +kernel
theorem dX9_setWidth_27 : decode cX9_setWidth 27 = .ok (.istore_n 2, 1) := by decide +kernel
theorem dX9_setWidth_28 : decode cX9_setWidth 28 = .ok (.aload_n 0, 1) := by decide +kernel
theorem dX9_setWidth_29 : decode cX9_setWidth 29 = .ok (.iload_n 1, 1) := by decide +kernel
theorem dX9_setWidth_30 : decode cX9_setWidth 30 = .ok (.putfield 61, 3) := by decide +kernel
theorem dX9_setWidth_33 : decode cX9_setWidth 33 = .ok (.iload_n 2, 1) := by decide +kernel
theorem dX9_setWidth_34 : decode cX9_setWidth 34 = .ok (.ireturn, 1) := by decide +kernel
theorem dX9_lines_0 : decode cX9_lines 0 = .ok (.aload_n 0, 1) := by decide +kernel
theorem dX9_lines_1 : decode cX9_lines 1 = .ok (.getfield 22, 3) := by decide +kernel
theorem dX9_lines_4 : decode cX9_lines 4 = .ok (.invokevirtual 112, 3) := by decide +kernel
theorem dX9_lines_7 : decode cX9_lines 7 = .ok (.ireturn, 1) := by decide +kernel
theorem dX9_lyrics_0 : decode cX9_lyrics 0 = .ok (.aload_n 0, 1) := by decide +kernel
theorem dX9_lyrics_1 : decode cX9_lyrics 1 = .ok (.iload_n 1, 1) := by decide +kernel
theorem dX9_lyrics_2 : decode cX9_lyrics 2 = .ok (.invokevirtual 115, 3) := by decide +kernel
theorem dX9_lyrics_5 : decode cX9_lyrics 5 = .ok (.aload_n 0, 1) := by decide +kernel
theorem dX9_lyrics_6 : decode cX9_lyrics 6 = .ok (.getfield 22, 3) := by decide +kernel
theorem dX9_lyrics_9 : decode cX9_lyrics 9 = .ok (.iload_n 1, 1) := by decide +kernel
theorem dX9_lyrics_10 : decode cX9_lyrics 10 = .ok (.invokevirtual 118, 3) := by decide +kernel
theorem dX9_lyrics_13 : decode cX9_lyrics 13 = .ok (.ireturn, 1) := by decide +kernel
theorem dX9_lyric_0 : decode cX9_lyric 0 = .ok (.aload_n 0, 1) := by decide +kernel
theorem dX9_lyric_1 : decode cX9_lyric 1 = .ok (.iload_n 1, 1) := by decide +kernel
theorem dX9_lyric_2 : decode cX9_lyric 2 = .ok (.invokevirtual 115, 3) := by decide +kernel
theorem dX9_lyric_5 : decode cX9_lyric 5 = .ok (.iload_n 2, 1) := by decide +kernel
theorem dX9_lyric_6 : decode cX9_lyric 6 = .ok (.ifCond .lt 15, 3) := by decide +kernel
theorem dX9_lyric_9 : decode cX9_lyric 9 = .ok (.iload_n 2, 1) := by decide +kernel
theorem dX9_lyric_10 : decode cX9_lyric 10 = .ok (.aload_n 0, 1) := by decide +kernel
theorem dX9_lyric_11 : decode cX9_lyric 11 = .ok (.getfield 22, 3) := by decide +kernel
theorem dX9_lyric_14 : decode cX9_lyric 14 = .ok (.iload_n 1, 1) := by decide +kernel
theorem dX9_lyric_15 : decode cX9_lyric 15 = .ok (.invokevirtual 118, 3) := by decide +kernel
theorem dX9_lyric_18 : decode cX9_lyric 18 = .ok (.if_icmp .lt 13, 3) := by decide +kernel
theorem dX9_lyric_21 : decode cX9_lyric 21 = .ok (.new 122, 3) := by decide +kernel
theorem dX9_lyric_24 : decode cX9_lyric 24 = .ok (.dup, 1) := by decide +kernel
theorem dX9_lyric_25 : decode cX9_lyric 25 = .ok (.ldc 124, 2) := by decide +kernel
theorem dX9_lyric_27 : decode cX9_lyric 27 = .ok (.invokespecial 126, 3) := by decide +kernel
theorem dX9_lyric_30 : decode cX9_lyric 30 = .ok (.athrow, 1) := by decide +kernel
theorem dX9_lyric_31 : decode cX9_lyric 31 = .ok (.aload_n 0, 1) := by decide +kernel
theorem dX9_lyric_32 : decode cX9_lyric 32 = .ok (.getfield 22, 3) := by decide +kernel
theorem dX9_lyric_35 : decode cX9_lyric 35 = .ok (.iload_n 1, 1) := by decide +kernel
theorem dX9_lyric_36 : decode cX9_lyric 36 = .ok (.iload_n 2, 1) := by decide +kernel
theorem dX9_lyric_37 : decode cX9_lyric 37 = .ok (.invokevirtual 127, 3) := by decide +kernel
theorem dX9_lyric_40 : decode cX9_lyric 40 = .ok (.ireturn, 1) := by decide +kernel
theorem dX9_chords_0 : decode cX9_chords 0 = .ok (.aload_n 0, 1) := by decide +kernel
theorem dX9_chords_1 : decode cX9_chords 1 = .ok (.getfield 22, 3) := by decide +kernel
theorem dX9_chords_4 : decode cX9_chords 4 = .ok (.invokevirtual 107, 3) := by decide +kernel
theorem dX9_chords_7 : decode cX9_chords 7 = .ok (.ireturn, 1) := by decide +kernel
theorem dX9_lineOf_0 : decode cX9_lineOf 0 = .ok (.aload_n 0, 1) := by decide +kernel
theorem dX9_lineOf_1 : decode cX9_lineOf 1 = .ok (.iload_n 1, 1) := by decide +kernel
theorem dX9_lineOf_2 : decode cX9_lineOf 2 = .ok (.invokevirtual 131, 3) := by decide +kernel
theorem dX9_lineOf_5 : decode cX9_lineOf 5 = .ok (.aload_n 0, 1) := by decide +kernel
theorem dX9_lineOf_6 : decode cX9_lineOf 6 = .ok (.getfield 22, 3) := by decide +kernel
theorem dX9_lineOf_9 : decode cX9_lineOf 9 = .ok (.iload_n 1, 1) := by decide +kernel
theorem dX9_lineOf_10 : decode cX9_lineOf 10 = .ok (.iconst 0, 1) := by decide +kernel
theorem dX9_lineOf_11 : decode cX9_lineOf 11 = .ok (.invokevirtual 134, 3) := by decide +kernel
theorem dX9_lineOf_14 : decode cX9_lineOf 14 = .ok (.ireturn, 1) := by decide +kernel
theorem dX9_columnOf_0 : decode cX9_columnOf 0 = .ok (.aload_n 0, 1) := by decide +kernel
theorem dX9_columnOf_1 : decode cX9_columnOf 1 = .ok (.iload_n 1, 1) := by decide +kernel
theorem dX9_columnOf_2 : decode cX9_columnOf 2 = .ok (.invokevirtual 131, 3) := by decide +kernel
theorem dX9_columnOf_5 : decode cX9_columnOf 5 = .ok (.aload_n 0, 1) := by decide +kernel
theorem dX9_columnOf_6 : decode cX9_columnOf 6 = .ok (.getfield 22, 3) := by decide +kernel
theorem dX9_columnOf_9 : decode cX9_columnOf 9 = .ok (.iload_n 1, 1) := by decide +kernel
theorem dX9_columnOf_10 : decode cX9_columnOf 10 = .ok (.iconst 1, 1) := by decide +kernel
theorem dX9_columnOf_11 : decode cX9_columnOf 11 = .ok (.invokevirtual 134, 3) := by decide +kernel
theorem dX9_columnOf_14 : decode cX9_columnOf 14 = .ok (.ireturn, 1) := by decide +kernel
theorem dX9_rootOf_0 : decode cX9_rootOf 0 = .ok (.aload_n 0, 1) := by decide +kernel
theorem dX9_rootOf_1 : decode cX9_rootOf 1 = .ok (.iload_n 1, 1) := by decide +kernel
theorem dX9_rootOf_2 : decode cX9_rootOf 2 = .ok (.invokevirtual 131, 3) := by decide +kernel
theorem dX9_rootOf_5 : decode cX9_rootOf 5 = .ok (.aload_n 0, 1) := by decide +kernel
theorem dX9_rootOf_6 : decode cX9_rootOf 6 = .ok (.getfield 22, 3) := by decide +kernel
theorem dX9_rootOf_9 : decode cX9_rootOf 9 = .ok (.iload_n 1, 1) := by decide +kernel
theorem dX9_rootOf_10 : decode cX9_rootOf 10 = .ok (.iconst 2, 1) := by decide +kernel
theorem dX9_rootOf_11 : decode cX9_rootOf 11 = .ok (.invokevirtual 134, 3) := by decide +kernel
theorem dX9_rootOf_14 : decode cX9_rootOf 14 = .ok (.ireturn, 1) := by decide +kernel
theorem dX9_qualityOf_0 : decode cX9_qualityOf 0 = .ok (.aload_n 0, 1) := by decide +kernel
theorem dX9_qualityOf_1 : decode cX9_qualityOf 1 = .ok (.iload_n 1, 1) := by decide +kernel
theorem dX9_qualityOf_2 : decode cX9_qualityOf 2 = .ok (.invokevirtual 131, 3) := by decide +kernel
theorem dX9_qualityOf_5 : decode cX9_qualityOf 5 = .ok (.aload_n 0, 1) := by decide +kernel
theorem dX9_qualityOf_6 : decode cX9_qualityOf 6 = .ok (.getfield 22, 3) := by decide +kernel
theorem dX9_qualityOf_9 : decode cX9_qualityOf 9 = .ok (.iload_n 1, 1) := by decide +kernel
theorem dX9_qualityOf_10 : decode cX9_qualityOf 10 = .ok (.iconst 3, 1) := by decide +kernel
theorem dX9_qualityOf_11 : decode cX9_qualityOf 11 = .ok (.invokevirtual 134, 3) := by decide +kernel
theorem dX9_qualityOf_14 : decode cX9_qualityOf 14 = .ok (.ireturn, 1) := by decide +kernel
theorem dX9_bassOf_0 : decode cX9_bassOf 0 = .ok (.aload_n 0, 1) := by decide +kernel
theorem dX9_bassOf_1 : decode cX9_bassOf 1 = .ok (.iload_n 1, 1) := by decide +kernel
theorem dX9_bassOf_2 : decode cX9_bassOf 2 = .ok (.invokevirtual 131, 3) := by decide +kernel
theorem dX9_bassOf_5 : decode cX9_bassOf 5 = .ok (.aload_n 0, 1) := by decide +kernel
theorem dX9_bassOf_6 : decode cX9_bassOf 6 = .ok (.getfield 22, 3) := by decide +kernel
theorem dX9_bassOf_9 : decode cX9_bassOf 9 = .ok (.iload_n 1, 1) := by decide +kernel
theorem dX9_bassOf_10 : decode cX9_bassOf 10 = .ok (.iconst 4, 1) := by decide +kernel
theorem dX9_bassOf_11 : decode cX9_bassOf 11 = .ok (.invokevirtual 134, 3) := by decide +kernel
theorem dX9_bassOf_14 : decode cX9_bassOf 14 = .ok (.ireturn, 1) := by decide +kernel
theorem dX9_nameChar_0 : decode cX9_nameChar 0 = .ok (.aload_n 0, 1) := by decide +kernel
theorem dX9_nameChar_1 : decode cX9_nameChar 1 = .ok (.iload_n 1, 1) := by decide +kernel
theorem dX9_nameChar_2 : decode cX9_nameChar 2 = .ok (.invokevirtual 131, 3) := by decide +kernel
theorem dX9_nameChar_5 : decode cX9_nameChar 5 = .ok (.aload_n 0, 1) := by decide +kernel
theorem dX9_nameChar_6 : decode cX9_nameChar 6 = .ok (.iload_n 2, 1) := by decide +kernel
theorem dX9_nameChar_7 : decode cX9_nameChar 7 = .ok (.invokevirtual 137, 3) := by decide +kernel
theorem dX9_nameChar_10 : decode cX9_nameChar 10 = .ok (.aload_n 0, 1) := by decide +kernel
theorem dX9_nameChar_11 : decode cX9_nameChar 11 = .ok (.getfield 16, 3) := by decide +kernel
theorem dX9_nameChar_14 : decode cX9_nameChar 14 = .ok (.iconst 0, 1) := by decide +kernel
theorem dX9_nameChar_15 : decode cX9_nameChar 15 = .ok (.invokevirtual 85, 3) := by decide +kernel
theorem dX9_nameChar_18 : decode cX9_nameChar 18 = .ok (.aload_n 0, 1) := by decide +kernel
theorem dX9_nameChar_19 : decode cX9_nameChar 19 = .ok (.getfield 22, 3) := by decide +kernel
theorem dX9_nameChar_22 : decode cX9_nameChar 22 = .ok (.iload_n 1, 1) := by decide +kernel
theorem dX9_nameChar_23 : decode cX9_nameChar 23 = .ok (.aload_n 0, 1) := by decide +kernel
theorem dX9_nameChar_24 : decode cX9_nameChar 24 = .ok (.getfield 16, 3) := by decide +kernel
theorem dX9_nameChar_27 : decode cX9_nameChar 27 = .ok (.invokevirtual 140, 3) := by decide +kernel
theorem dX9_nameChar_30 : decode cX9_nameChar 30 = .ok (.aload_n 0, 1) := by decide +kernel
theorem dX9_nameChar_31 : decode cX9_nameChar 31 = .ok (.getfield 16, 3) := by decide +kernel
theorem dX9_nameChar_34 : decode cX9_nameChar 34 = .ok (.iload_n 2, 1) := by decide +kernel
theorem dX9_nameChar_35 : decode cX9_nameChar 35 = .ok (.invokevirtual 144, 3) := by decide +kernel
theorem dX9_nameChar_38 : decode cX9_nameChar 38 = .ok (.ireturn, 1) := by decide +kernel
theorem dX9_setChord_0 : decode cX9_setChord 0 = .ok (.aload_n 0, 1) := by decide +kernel
theorem dX9_setChord_1 : decode cX9_setChord 1 = .ok (.iload_n 1, 1) := by decide +kernel
theorem dX9_setChord_2 : decode cX9_setChord 2 = .ok (.invokevirtual 131, 3) := by decide +kernel
theorem dX9_setChord_5 : decode cX9_setChord 5 = .ok (.aload_n 0, 1) := by decide +kernel
theorem dX9_setChord_6 : decode cX9_setChord 6 = .ok (.getfield 41, 3) := by decide +kernel
theorem dX9_setChord_9 : decode cX9_setChord 9 = .ok (.invokevirtual 147, 3) := by decide +kernel
theorem dX9_setChord_12 : decode cX9_setChord 12 = .ok (.istore_n 2, 1) := by decide +kernel
theorem dX9_setChord_13 : decode cX9_setChord 13 = .ok (.iload_n 2, 1) := by decide +kernel
theorem dX9_setChord_14 : decode cX9_setChord 14 = .ok (.iconst (-1), 1) := by decide +kernel
theorem dX9_setChord_15 : decode cX9_setChord 15 = .ok (.if_icmp .eq 7, 3) := by decide +kernel
theorem dX9_setChord_18 : decode cX9_setChord 18 = .ok (.iconst (-1), 1) := by decide +kernel
theorem dX9_setChord_19 : decode cX9_setChord 19 = .ok (.iload_n 2, 1) := by decide +kernel
theorem dX9_setChord_20 : decode cX9_setChord 20 = .ok (.isub, 1) := by decide +kernel
theorem dX9_setChord_21 : decode cX9_setChord 21 = .ok (.ireturn, 1) := by decide +kernel
theorem dX9_setChord_22 : decode cX9_setChord 22 = .ok (.aload_n 0, 1) := by decide +kernel
theorem dX9_setChord_23 : decode cX9_setChord 23 = .ok (.getfield 32, 3) := by decide +kernel
theorem dX9_setChord_26 : decode cX9_setChord 26 = .ok (.aload_n 0, 1) := by decide +kernel
theorem dX9_setChord_27 : decode cX9_setChord 27 = .ok (.getfield 22, 3) := by decide +kernel
theorem dX9_setChord_30 : decode cX9_setChord 30 = .ok (.invokevirtual 93, 3) := by decide +kernel
theorem dX9_setChord_33 : decode cX9_setChord 33 = .ok (.aload_n 0, 1) := by decide +kernel
theorem dX9_setChord_34 : decode cX9_setChord 34 = .ok (.getfield 22, 3) := by decide +kernel
theorem dX9_setChord_37 : decode cX9_setChord 37 = .ok (.iload_n 1, 1) := by decide +kernel
theorem dX9_setChord_38 : decode cX9_setChord 38 = .ok (.aload_n 0, 1) := by decide +kernel
theorem dX9_setChord_39 : decode cX9_setChord 39 = .ok (.getfield 41, 3) := by decide +kernel
theorem dX9_setChord_42 : decode cX9_setChord 42 = .ok (.invokevirtual 150, 3) := by decide +kernel
theorem dX9_setChord_45 : decode cX9_setChord 45 = .ok (.aload_n 0, 1) := by decide +kernel
theorem dX9_setChord_46 : decode cX9_setChord 46 = .ok (.getfield 41, 3) := by decide +kernel
theorem dX9_setChord_49 : decode cX9_setChord 49 = .ok (.invokevirtual 153, 3) := by decide +kernel
theorem dX9_setChord_52 : decode cX9_setChord 52 = .ok (.aload_n 0, 1) := by decide +kernel
theorem dX9_setChord_53 : decode cX9_setChord 53 = .ok (.getfield 41, 3) := by decide +kernel
theorem dX9_setChord_56 : decode cX9_setChord 56 = .ok (.invokevirtual 156, 3) := by decide +kernel
theorem dX9_setChord_59 : decode cX9_setChord 59 = .ok (.invokevirtual 159, 3) := by decide +kernel
theorem dX9_setChord_62 : decode cX9_setChord 62 = .ok (.aload_n 0, 1) := by decide +kernel
theorem dX9_setChord_63 : decode cX9_setChord 63 = .ok (.getfield 10, 3) := by decide +kernel
theorem dX9_setChord_66 : decode cX9_setChord 66 = .ok (.iconst 0, 1) := by decide +kernel
theorem dX9_setChord_67 : decode cX9_setChord 67 = .ok (.invokevirtual 85, 3) := by decide +kernel
theorem dX9_setChord_70 : decode cX9_setChord 70 = .ok (.iconst 0, 1) := by decide +kernel
theorem dX9_setChord_71 : decode cX9_setChord 71 = .ok (.ireturn, 1) := by decide +kernel
theorem dX9_addChord_0 : decode cX9_addChord 0 = .ok (.aload_n 0, 1) := by decide +kernel
theorem dX9_addChord_1 : decode cX9_addChord 1 = .ok (.iload_n 1, 1) := by decide +kernel
theorem dX9_addChord_2 : decode cX9_addChord 2 = .ok (.invokevirtual 115, 3) := by decide +kernel
theorem dX9_addChord_5 : decode cX9_addChord 5 = .ok (.aload_n 0, 1) := by decide +kernel
theorem dX9_addChord_6 : decode cX9_addChord 6 = .ok (.iload_n 1, 1) := by decide +kernel
theorem dX9_addChord_7 : decode cX9_addChord 7 = .ok (.iload_n 2, 1) := by decide +kernel
theorem dX9_addChord_8 : decode cX9_addChord 8 = .ok (.invokevirtual 163, 3) := by decide +kernel
theorem dX9_addChord_11 : decode cX9_addChord 11 = .ok (.aload_n 0, 1) := by decide +kernel
theorem dX9_addChord_12 : decode cX9_addChord 12 = .ok (.getfield 22, 3) := by decide +kernel
theorem dX9_addChord_15 : decode cX9_addChord 15 = .ok (.invokevirtual 107, 3) := by decide +kernel
theorem dX9_addChord_18 : decode cX9_addChord 18 = .ok (.bipush 40, 2) := by decide +kernel
theorem dX9_addChord_20 : decode cX9_addChord 20 = .ok (.if_icmp .lt 13, 3) := by decide +kernel
theorem dX9_addChord_23 : decode cX9_addChord 23 = .ok (.new 76, 3) := by decide +kernel
theorem dX9_addChord_26 : decode cX9_addChord 26 = .ok (.dup, 1) := by decide +kernel
theorem dX9_addChord_27 : decode cX9_addChord 27 = .ok (.ldc 167, 2) := by decide +kernel
theorem dX9_addChord_29 : decode cX9_addChord 29 = .ok (.invokespecial 80, 3) := by decide +kernel
theorem dX9_addChord_32 : decode cX9_addChord 32 = .ok (.athrow, 1) := by decide +kernel
theorem dX9_addChord_33 : decode cX9_addChord 33 = .ok (.aload_n 0, 1) := by decide +kernel
theorem dX9_addChord_34 : decode cX9_addChord 34 = .ok (.getfield 41, 3) := by decide +kernel
theorem dX9_addChord_37 : decode cX9_addChord 37 = .ok (.invokevirtual 147, 3) := by decide +kernel
theorem dX9_addChord_40 : decode cX9_addChord 40 = .ok (.istore_n 3, 1) := by decide +kernel
theorem dX9_addChord_41 : decode cX9_addChord 41 = .ok (.iload_n 3, 1) := by decide +kernel
theorem dX9_addChord_42 : decode cX9_addChord 42 = .ok (.iconst (-1), 1) := by decide +kernel
theorem dX9_addChord_43 : decode cX9_addChord 43 = .ok (.if_icmp .eq 7, 3) := by decide +kernel
theorem dX9_addChord_46 : decode cX9_addChord 46 = .ok (.iconst (-1), 1) := by decide +kernel
theorem dX9_addChord_47 : decode cX9_addChord 47 = .ok (.iload_n 3, 1) := by decide +kernel
theorem dX9_addChord_48 : decode cX9_addChord 48 = .ok (.isub, 1) := by decide +kernel
theorem dX9_addChord_49 : decode cX9_addChord 49 = .ok (.ireturn, 1) := by decide +kernel
theorem dX9_addChord_50 : decode cX9_addChord 50 = .ok (.aload_n 0, 1) := by decide +kernel
theorem dX9_addChord_51 : decode cX9_addChord 51 = .ok (.getfield 32, 3) := by decide +kernel
theorem dX9_addChord_54 : decode cX9_addChord 54 = .ok (.aload_n 0, 1) := by decide +kernel
theorem dX9_addChord_55 : decode cX9_addChord 55 = .ok (.getfield 22, 3) := by decide +kernel
theorem dX9_addChord_58 : decode cX9_addChord 58 = .ok (.invokevirtual 93, 3) := by decide +kernel
theorem dX9_addChord_61 : decode cX9_addChord 61 = .ok (.aload_n 0, 1) := by decide +kernel
theorem dX9_addChord_62 : decode cX9_addChord 62 = .ok (.getfield 10, 3) := by decide +kernel
theorem dX9_addChord_65 : decode cX9_addChord 65 = .ok (.iconst 0, 1) := by decide +kernel
theorem dX9_addChord_66 : decode cX9_addChord 66 = .ok (.invokevirtual 85, 3) := by decide +kernel
theorem dX9_addChord_69 : decode cX9_addChord 69 = .ok (.aload_n 0, 1) := by decide +kernel
theorem dX9_addChord_70 : decode cX9_addChord 70 = .ok (.getfield 22, 3) := by decide +kernel
theorem dX9_addChord_73 : decode cX9_addChord 73 = .ok (.iload_n 1, 1) := by decide +kernel
theorem dX9_addChord_74 : decode cX9_addChord 74 = .ok (.iload_n 2, 1) := by decide +kernel
theorem dX9_addChord_75 : decode cX9_addChord 75 = .ok (.aload_n 0, 1) := by decide +kernel
theorem dX9_addChord_76 : decode cX9_addChord 76 = .ok (.getfield 41, 3) := by decide +kernel
theorem dX9_addChord_79 : decode cX9_addChord 79 = .ok (.invokevirtual 150, 3) := by decide +kernel
theorem dX9_addChord_82 : decode cX9_addChord 82 = .ok (.aload_n 0, 1) := by decide +kernel
theorem dX9_addChord_83 : decode cX9_addChord 83 = .ok (.getfield 41, 3) := by decide +kernel
theorem dX9_addChord_86 : decode cX9_addChord 86 = .ok (.invokevirtual 153, 3) := by decide +kernel
theorem dX9_addChord_89 : decode cX9_addChord 89 = .ok (.aload_n 0, 1) := by decide +kernel
theorem dX9_addChord_90 : decode cX9_addChord 90 = .ok (.getfield 41, 3) := by decide +kernel
theorem dX9_addChord_93 : decode cX9_addChord 93 = .ok (.invokevirtual 156, 3) := by decide +kernel
theorem dX9_addChord_96 : decode cX9_addChord 96 = .ok (.invokevirtual 169, 3) := by decide +kernel
theorem dX9_addChord_99 : decode cX9_addChord 99 = .ok (.ireturn, 1) := by decide +kernel
theorem dX9_removeChord_0 : decode cX9_removeChord 0 = .ok (.aload_n 0, 1) := by decide +kernel
theorem dX9_removeChord_1 : decode cX9_removeChord 1 = .ok (.iload_n 1, 1) := by decide +kernel
theorem dX9_removeChord_2 : decode cX9_removeChord 2 = .ok (.invokevirtual 131, 3) := by decide +kernel
theorem dX9_removeChord_5 : decode cX9_removeChord 5 = .ok (.aload_n 0, 1) := by decide +kernel
theorem dX9_removeChord_6 : decode cX9_removeChord 6 = .ok (.getfield 32, 3) := by decide +kernel
theorem dX9_removeChord_9 : decode cX9_removeChord 9 = .ok (.aload_n 0, 1) := by decide +kernel
theorem dX9_removeChord_10 : decode cX9_removeChord 10 = .ok (.getfield 22, 3) := by decide +kernel
theorem dX9_removeChord_13 : decode cX9_removeChord 13 = .ok (.invokevirtual 93, 3) := by decide +kernel
theorem dX9_removeChord_16 : decode cX9_removeChord 16 = .ok (.aload_n 0, 1) := by decide +kernel
theorem dX9_removeChord_17 : decode cX9_removeChord 17 = .ok (.getfield 22, 3) := by decide +kernel
theorem dX9_removeChord_20 : decode cX9_removeChord 20 = .ok (.iload_n 1, 1) := by decide +kernel
theorem dX9_removeChord_21 : decode cX9_removeChord 21 = .ok (.invokevirtual 173, 3) := by decide +kernel
theorem dX9_removeChord_24 : decode cX9_removeChord 24 = .ok (.aload_n 0, 1) := by decide +kernel
theorem dX9_removeChord_25 : decode cX9_removeChord 25 = .ok (.getfield 22, 3) := by decide +kernel
theorem dX9_removeChord_28 : decode cX9_removeChord 28 = .ok (.invokevirtual 107, 3) := by decide +kernel
theorem dX9_removeChord_31 : decode cX9_removeChord 31 = .ok (.ireturn, 1) := by decide +kernel
theorem dX9_moveChord_0 : decode cX9_moveChord 0 = .ok (.aload_n 0, 1) := by decide +kernel
theorem dX9_moveChord_1 : decode cX9_moveChord 1 = .ok (.iload_n 1, 1) := by decide +kernel
theorem dX9_moveChord_2 : decode cX9_moveChord 2 = .ok (.invokevirtual 131, 3) := by decide +kernel
theorem dX9_moveChord_5 : decode cX9_moveChord 5 = .ok (.aload_n 0, 1) := by decide +kernel
theorem dX9_moveChord_6 : decode cX9_moveChord 6 = .ok (.getfield 22, 3) := by decide +kernel
theorem dX9_moveChord_9 : decode cX9_moveChord 9 = .ok (.iload_n 1, 1) := by decide +kernel
theorem dX9_moveChord_10 : decode cX9_moveChord 10 = .ok (.iconst 0, 1) := by decide +kernel
theorem dX9_moveChord_11 : decode cX9_moveChord 11 = .ok (.invokevirtual 134, 3) := by decide +kernel
theorem dX9_moveChord_14 : decode cX9_moveChord 14 = .ok (.istore_n 3, 1) := by decide +kernel
theorem dX9_moveChord_15 : decode cX9_moveChord 15 = .ok (.aload_n 0, 1) := by decide +kernel
theorem dX9_moveChord_16 : decode cX9_moveChord 16 = .ok (.iload_n 3, 1) := by decide +kernel
theorem dX9_moveChord_17 : decode cX9_moveChord 17 = .ok (.iload_n 2, 1) := by decide +kernel
theorem dX9_moveChord_18 : decode cX9_moveChord 18 = .ok (.invokevirtual 163, 3) := by decide +kernel
theorem dX9_moveChord_21 : decode cX9_moveChord 21 = .ok (.aload_n 0, 1) := by decide +kernel
theorem dX9_moveChord_22 : decode cX9_moveChord 22 = .ok (.getfield 32, 3) := by decide +kernel
theorem dX9_moveChord_25 : decode cX9_moveChord 25 = .ok (.aload_n 0, 1) := by decide +kernel
theorem dX9_moveChord_26 : decode cX9_moveChord 26 = .ok (.getfield 22, 3) := by decide +kernel
theorem dX9_moveChord_29 : decode cX9_moveChord 29 = .ok (.invokevirtual 93, 3) := by decide +kernel
theorem dX9_moveChord_32 : decode cX9_moveChord 32 = .ok (.aload_n 0, 1) := by decide +kernel
theorem dX9_moveChord_33 : decode cX9_moveChord 33 = .ok (.getfield 22, 3) := by decide +kernel
theorem dX9_moveChord_36 : decode cX9_moveChord 36 = .ok (.iload_n 1, 1) := by decide +kernel
theorem dX9_moveChord_37 : decode cX9_moveChord 37 = .ok (.iconst 2, 1) := by decide +kernel
theorem dX9_moveChord_38 : decode cX9_moveChord 38 = .ok (.invokevirtual 134, 3) := by decide +kernel
theorem dX9_moveChord_41 : decode cX9_moveChord 41 = .ok (.istore 4, 2) := by decide +kernel
theorem dX9_moveChord_43 : decode cX9_moveChord 43 = .ok (.aload_n 0, 1) := by decide +kernel
theorem dX9_moveChord_44 : decode cX9_moveChord 44 = .ok (.getfield 22, 3) := by decide +kernel
theorem dX9_moveChord_47 : decode cX9_moveChord 47 = .ok (.iload_n 1, 1) := by decide +kernel
theorem dX9_moveChord_48 : decode cX9_moveChord 48 = .ok (.iconst 3, 1) := by decide +kernel
theorem dX9_moveChord_49 : decode cX9_moveChord 49 = .ok (.invokevirtual 134, 3) := by decide +kernel
theorem dX9_moveChord_52 : decode cX9_moveChord 52 = .ok (.istore 5, 2) := by decide +kernel
theorem dX9_moveChord_54 : decode cX9_moveChord 54 = .ok (.aload_n 0, 1) := by decide +kernel
theorem dX9_moveChord_55 : decode cX9_moveChord 55 = .ok (.getfield 22, 3) := by decide +kernel
theorem dX9_moveChord_58 : decode cX9_moveChord 58 = .ok (.iload_n 1, 1) := by decide +kernel
theorem dX9_moveChord_59 : decode cX9_moveChord 59 = .ok (.iconst 4, 1) := by decide +kernel
theorem dX9_moveChord_60 : decode cX9_moveChord 60 = .ok (.invokevirtual 134, 3) := by decide +kernel
theorem dX9_moveChord_63 : decode cX9_moveChord 63 = .ok (.istore 6, 2) := by decide +kernel
theorem dX9_moveChord_65 : decode cX9_moveChord 65 = .ok (.aload_n 0, 1) := by decide +kernel
theorem dX9_moveChord_66 : decode cX9_moveChord 66 = .ok (.getfield 22, 3) := by decide +kernel
theorem dX9_moveChord_69 : decode cX9_moveChord 69 = .ok (.iload_n 1, 1) := by decide +kernel
theorem dX9_moveChord_70 : decode cX9_moveChord 70 = .ok (.invokevirtual 173, 3) := by decide +kernel
theorem dX9_moveChord_73 : decode cX9_moveChord 73 = .ok (.aload_n 0, 1) := by decide +kernel
theorem dX9_moveChord_74 : decode cX9_moveChord 74 = .ok (.getfield 22, 3) := by decide +kernel
theorem dX9_moveChord_77 : decode cX9_moveChord 77 = .ok (.iload_n 3, 1) := by decide +kernel
theorem dX9_moveChord_78 : decode cX9_moveChord 78 = .ok (.iload_n 2, 1) := by decide +kernel
theorem dX9_moveChord_79 : decode cX9_moveChord 79 = .ok (.iload 4, 2) := by decide +kernel
theorem dX9_moveChord_81 : decode cX9_moveChord 81 = .ok (.iload 5, 2) := by decide +kernel
theorem dX9_moveChord_83 : decode cX9_moveChord 83 = .ok (.iload 6, 2) := by decide +kernel
theorem dX9_moveChord_85 : decode cX9_moveChord 85 = .ok (.invokevirtual 169, 3) := by decide +kernel
theorem dX9_moveChord_88 : decode cX9_moveChord 88 = .ok (.ireturn, 1) := by decide +kernel
theorem dX9_commonTones_0 : decode cX9_commonTones 0 = .ok (.iload_n 1, 1) := by decide +kernel
theorem dX9_commonTones_1 : decode cX9_commonTones 1 = .ok (.ifCond .lt 16, 3) := by decide +kernel
theorem dX9_commonTones_4 : decode cX9_commonTones 4 = .ok (.iload_n 1, 1) := by decide +kernel
theorem dX9_commonTones_5 : decode cX9_commonTones 5 = .ok (.aload_n 0, 1) := by decide +kernel
theorem dX9_commonTones_6 : decode cX9_commonTones 6 = .ok (.getfield 22, 3) := by decide +kernel
theorem dX9_commonTones_9 : decode cX9_commonTones 9 = .ok (.invokevirtual 107, 3) := by decide +kernel
theorem dX9_commonTones_12 : decode cX9_commonTones 12 = .ok (.iconst 1, 1) := by decide +kernel
theorem dX9_commonTones_13 : decode cX9_commonTones 13 = .ok (.isub, 1) := by decide +kernel
theorem dX9_commonTones_14 : decode cX9_commonTones 14 = .ok (.if_icmp .lt 13, 3) := by decide +kernel
theorem dX9_commonTones_17 : decode cX9_commonTones 17 = .ok (.new 122, 3) := by decide +kernel
theorem dX9_commonTones_20 : decode cX9_commonTones 20 = .ok (.dup, 1) := by decide +kernel
theorem dX9_commonTones_21 : decode cX9_commonTones 21 = .ok (.ldc 176, 2) := by decide +kernel
theorem dX9_commonTones_23 : decode cX9_commonTones 23 = .ok (.invokespecial 126, 3) := by decide +kernel
theorem dX9_commonTones_26 : decode cX9_commonTones 26 = .ok (.athrow, 1) := by decide +kernel
theorem dX9_commonTones_27 : decode cX9_commonTones 27 = .ok (.aload_n 0, 1) := by decide +kernel
theorem dX9_commonTones_28 : decode cX9_commonTones 28 = .ok (.getfield 22, 3) := by decide +kernel
theorem dX9_commonTones_31 : decode cX9_commonTones 31 = .ok (.iload_n 1, 1) := by decide +kernel
theorem dX9_commonTones_32 : decode cX9_commonTones 32 = .ok (.invokevirtual 178, 3) := by decide +kernel
theorem dX9_commonTones_35 : decode cX9_commonTones 35 = .ok (.aload_n 0, 1) := by decide +kernel
theorem dX9_commonTones_36 : decode cX9_commonTones 36 = .ok (.getfield 22, 3) := by decide +kernel
theorem dX9_commonTones_39 : decode cX9_commonTones 39 = .ok (.iload_n 1, 1) := by decide +kernel
theorem dX9_commonTones_40 : decode cX9_commonTones 40 = .ok (.iconst 1, 1) := by decide +kernel
theorem dX9_commonTones_41 : decode cX9_commonTones 41 = .ok (.iadd, 1) := by decide +kernel
theorem dX9_commonTones_42 : decode cX9_commonTones 42 = .ok (.invokevirtual 178, 3) := by decide +kernel
theorem dX9_commonTones_45 : decode cX9_commonTones 45 = .ok (.iand, 1) := by decide +kernel
theorem dX9_commonTones_46 : decode cX9_commonTones 46 = .ok (.invokestatic 181, 3) := by decide +kernel
theorem dX9_commonTones_49 : decode cX9_commonTones 49 = .ok (.ireturn, 1) := by decide +kernel
theorem dX9_degree_0 : decode cX9_degree 0 = .ok (.aload_n 0, 1) := by decide +kernel
theorem dX9_degree_1 : decode cX9_degree 1 = .ok (.iload_n 1, 1) := by decide +kernel
theorem dX9_degree_2 : decode cX9_degree 2 = .ok (.invokevirtual 131, 3) := by decide +kernel
theorem dX9_degree_5 : decode cX9_degree 5 = .ok (.aload_n 0, 1) := by decide +kernel
theorem dX9_degree_6 : decode cX9_degree 6 = .ok (.getfield 22, 3) := by decide +kernel
theorem dX9_degree_9 : decode cX9_degree 9 = .ok (.iload_n 1, 1) := by decide +kernel
theorem dX9_degree_10 : decode cX9_degree 10 = .ok (.iconst 2, 1) := by decide +kernel
theorem dX9_degree_11 : decode cX9_degree 11 = .ok (.invokevirtual 134, 3) := by decide +kernel
theorem dX9_degree_14 : decode cX9_degree 14 = .ok (.invokestatic 186, 3) := by decide +kernel
theorem dX9_degree_17 : decode cX9_degree 17 = .ok (.istore_n 2, 1) := by decide +kernel
theorem dX9_degree_18 : decode cX9_degree 18 = .ok (.iload_n 2, 1) := by decide +kernel
theorem dX9_degree_19 : decode cX9_degree 19 = .ok (.aload_n 0, 1) := by decide +kernel
theorem dX9_degree_20 : decode cX9_degree 20 = .ok (.getfield 22, 3) := by decide +kernel
theorem dX9_degree_23 : decode cX9_degree 23 = .ok (.getfield 191, 3) := by decide +kernel
theorem dX9_degree_26 : decode cX9_degree 26 = .ok (.aload_n 0, 1) := by decide +kernel
theorem dX9_degree_27 : decode cX9_degree 27 = .ok (.getfield 22, 3) := by decide +kernel
theorem dX9_degree_30 : decode cX9_degree 30 = .ok (.getfield 194, 3) := by decide +kernel
theorem dX9_degree_33 : decode cX9_degree 33 = .ok (.invokestatic 197, 3) := by decide +kernel
theorem dX9_degree_36 : decode cX9_degree 36 = .ok (.ireturn, 1) := by decide +kernel
theorem dX9_tonic_0 : decode cX9_tonic 0 = .ok (.aload_n 0, 1) := by decide +kernel
theorem dX9_tonic_1 : decode cX9_tonic 1 = .ok (.getfield 22, 3) := by decide +kernel
theorem dX9_tonic_4 : decode cX9_tonic 4 = .ok (.getfield 191, 3) := by decide +kernel
theorem dX9_tonic_7 : decode cX9_tonic 7 = .ok (.aload_n 0, 1) := by decide +kernel
theorem dX9_tonic_8 : decode cX9_tonic 8 = .ok (.getfield 22, 3) := by decide +kernel
theorem dX9_tonic_11 : decode cX9_tonic 11 = .ok (.getfield 194, 3) := by decide +kernel
theorem dX9_tonic_14 : decode cX9_tonic 14 = .ok (.invokestatic 201, 3) := by decide +kernel
theorem dX9_tonic_17 : decode cX9_tonic 17 = .ok (.ireturn, 1) := by decide +kernel
theorem dX9_isMinor_0 : decode cX9_isMinor 0 = .ok (.aload_n 0, 1) := by decide +kernel
theorem dX9_isMinor_1 : decode cX9_isMinor 1 = .ok (.getfield 22, 3) := by decide +kernel
theorem dX9_isMinor_4 : decode cX9_isMinor 4 = .ok (.getfield 194, 3) := by decide +kernel
theorem dX9_isMinor_7 : decode cX9_isMinor 7 = .ok (.ireturn, 1) := by decide +kernel
theorem dX9_signature_0 : decode cX9_signature 0 = .ok (.aload_n 0, 1) := by decide +kernel
theorem dX9_signature_1 : decode cX9_signature 1 = .ok (.getfield 22, 3) := by decide +kernel
theorem dX9_signature_4 : decode cX9_signature 4 = .ok (.getfield 191, 3) := by decide +kernel
theorem dX9_signature_7 : decode cX9_signature 7 = .ok (.ireturn, 1) := by decide +kernel
theorem dX9_setKey_0 : decode cX9_setKey 0 = .ok (.aload_n 0, 1) := by decide +kernel
theorem dX9_setKey_1 : decode cX9_setKey 1 = .ok (.iload_n 1, 1) := by decide +kernel
theorem dX9_setKey_2 : decode cX9_setKey 2 = .ok (.iload_n 2, 1) := by decide +kernel
theorem dX9_setKey_3 : decode cX9_setKey 3 = .ok (.invokevirtual 205, 3) := by decide +kernel
theorem dX9_setKey_6 : decode cX9_setKey 6 = .ok (.aload_n 0, 1) := by decide +kernel
theorem dX9_setKey_7 : decode cX9_setKey 7 = .ok (.getfield 32, 3) := by decide +kernel
theorem dX9_setKey_10 : decode cX9_setKey 10 = .ok (.aload_n 0, 1) := by decide +kernel
theorem dX9_setKey_11 : decode cX9_setKey 11 = .ok (.getfield 22, 3) := by decide +kernel
theorem dX9_setKey_14 : decode cX9_setKey 14 = .ok (.invokevirtual 93, 3) := by decide +kernel
theorem dX9_setKey_17 : decode cX9_setKey 17 = .ok (.aload_n 0, 1) := by decide +kernel
theorem dX9_setKey_18 : decode cX9_setKey 18 = .ok (.getfield 22, 3) := by decide +kernel
theorem dX9_setKey_21 : decode cX9_setKey 21 = .ok (.getfield 191, 3) := by decide +kernel
theorem dX9_setKey_24 : decode cX9_setKey 24 = .ok (.istore_n 3, 1) := by decide +kernel
theorem dX9_setKey_25 : decode cX9_setKey 25 = .ok (.aload_n 0, 1) := by decide +kernel
theorem dX9_setKey_26 : decode cX9_setKey 26 = .ok (.getfield 22, 3) := by decide +kernel
theorem dX9_setKey_29 : decode cX9_setKey 29 = .ok (.iload_n 1, 1) := by decide +kernel
theorem dX9_setKey_30 : decode cX9_setKey 30 = .ok (.iload_n 2, 1) := by decide +kernel
theorem dX9_setKey_31 : decode cX9_setKey 31 = .ok (.invokestatic 209, 3) := by decide +kernel
theorem dX9_setKey_34 : decode cX9_setKey 34 = .ok (.putfield 191, 3) := by decide +kernel
theorem dX9_setKey_37 : decode cX9_setKey 37 = .ok (.aload_n 0, 1) := by decide +kernel
theorem dX9_setKey_38 : decode cX9_setKey 38 = .ok (.getfield 22, 3) := by decide +kernel
theorem dX9_setKey_41 : decode cX9_setKey 41 = .ok (.iload_n 2, 1) := by decide +kernel
theorem dX9_setKey_42 : decode cX9_setKey 42 = .ok (.putfield 194, 3) := by decide +kernel
theorem dX9_setKey_45 : decode cX9_setKey 45 = .ok (.iload_n 3, 1) := by decide +kernel
theorem dX9_setKey_46 : decode cX9_setKey 46 = .ok (.ireturn, 1) := by decide +kernel
theorem dX9_score_0 : decode cX9_score 0 = .ok (.aload_n 0, 1) := by decide +kernel
theorem dX9_score_1 : decode cX9_score 1 = .ok (.iload_n 1, 1) := by decide +kernel
theorem dX9_score_2 : decode cX9_score 2 = .ok (.iload_n 2, 1) := by decide +kernel
theorem dX9_score_3 : decode cX9_score 3 = .ok (.invokevirtual 205, 3) := by decide +kernel
theorem dX9_score_6 : decode cX9_score 6 = .ok (.aload_n 0, 1) := by decide +kernel
theorem dX9_score_7 : decode cX9_score 7 = .ok (.getfield 22, 3) := by decide +kernel
theorem dX9_score_10 : decode cX9_score 10 = .ok (.iload_n 1, 1) := by decide +kernel
theorem dX9_score_11 : decode cX9_score 11 = .ok (.iload_n 2, 1) := by decide +kernel
theorem dX9_score_12 : decode cX9_score 12 = .ok (.invokestatic 209, 3) := by decide +kernel
theorem dX9_score_15 : decode cX9_score 15 = .ok (.iload_n 2, 1) := by decide +kernel
theorem dX9_score_16 : decode cX9_score 16 = .ok (.invokestatic 212, 3) := by decide +kernel
theorem dX9_score_19 : decode cX9_score 19 = .ok (.ireturn, 1) := by decide +kernel
theorem dX9_findKey_0 : decode cX9_findKey 0 = .ok (.aload_n 0, 1) := by decide +kernel
theorem dX9_findKey_1 : decode cX9_findKey 1 = .ok (.getfield 22, 3) := by decide +kernel
theorem dX9_findKey_4 : decode cX9_findKey 4 = .ok (.invokestatic 99, 3) := by decide +kernel
theorem dX9_findKey_7 : decode cX9_findKey 7 = .ok (.ireturn, 1) := by decide +kernel
theorem dX9_transpose_0 : decode cX9_transpose 0 = .ok (.iload_n 1, 1) := by decide +kernel
theorem dX9_transpose_1 : decode cX9_transpose 1 = .ok (.bipush (-11), 2) := by decide +kernel
theorem dX9_transpose_3 : decode cX9_transpose 3 = .ok (.if_icmp .lt 9, 3) := by decide +kernel
theorem dX9_transpose_6 : decode cX9_transpose 6 = .ok (.iload_n 1, 1) := by decide +kernel
theorem dX9_transpose_7 : decode cX9_transpose 7 = .ok (.bipush 11, 2) := by decide +kernel
theorem dX9_transpose_9 : decode cX9_transpose 9 = .ok (.if_icmp .le 13, 3) := by decide +kernel
theorem dX9_transpose_12 : decode cX9_transpose 12 = .ok (.new 65, 3) := by decide +kernel
theorem dX9_transpose_15 : decode cX9_transpose 15 = .ok (.dup, 1) := by decide +kernel
theorem dX9_transpose_16 : decode cX9_transpose 16 = .ok (.ldc 216, 2) := by decide +kernel
theorem dX9_transpose_18 : decode cX9_transpose 18 = .ok (.invokespecial 69, 3) := by decide +kernel
theorem dX9_transpose_21 : decode cX9_transpose 21 = .ok (.athrow, 1) := by decide +kernel
theorem dX9_transpose_22 : decode cX9_transpose 22 = .ok (.aload_n 0, 1) := by decide +kernel
theorem dX9_transpose_23 : decode cX9_transpose 23 = .ok (.getfield 32, 3) := by decide +kernel
theorem dX9_transpose_26 : decode cX9_transpose 26 = .ok (.aload_n 0, 1) := by decide +kernel
theorem dX9_transpose_27 : decode cX9_transpose 27 = .ok (.getfield 22, 3) := by decide +kernel
theorem dX9_transpose_30 : decode cX9_transpose 30 = .ok (.invokevirtual 93, 3) := by decide +kernel
theorem dX9_transpose_33 : decode cX9_transpose 33 = .ok (.aload_n 0, 1) := by decide +kernel
theorem dX9_transpose_34 : decode cX9_transpose 34 = .ok (.invokevirtual 218, 3) := by decide +kernel
theorem dX9_transpose_37 : decode cX9_transpose 37 = .ok (.iload_n 1, 1) := by decide +kernel
theorem dX9_transpose_38 : decode cX9_transpose 38 = .ok (.invokestatic 221, 3) := by decide +kernel
theorem dX9_transpose_41 : decode cX9_transpose 41 = .ok (.istore_n 2, 1) := by decide +kernel
theorem dX9_transpose_42 : decode cX9_transpose 42 = .ok (.aload_n 0, 1) := by decide +kernel
theorem dX9_transpose_43 : decode cX9_transpose 43 = .ok (.getfield 22, 3) := by decide +kernel
theorem dX9_transpose_46 : decode cX9_transpose 46 = .ok (.iload_n 2, 1) := by decide +kernel
theorem dX9_transpose_47 : decode cX9_transpose 47 = .ok (.aload_n 0, 1) := by decide +kernel
theorem dX9_transpose_48 : decode cX9_transpose 48 = .ok (.getfield 22, 3) := by decide +kernel
theorem dX9_transpose_51 : decode cX9_transpose 51 = .ok (.getfield 194, 3) := by decide +kernel
theorem dX9_transpose_54 : decode cX9_transpose 54 = .ok (.aload_n 0, 1) := by decide +kernel
theorem dX9_transpose_55 : decode cX9_transpose 55 = .ok (.getfield 58, 3) := by decide +kernel
theorem dX9_transpose_58 : decode cX9_transpose 58 = .ok (.invokestatic 224, 3) := by decide +kernel
theorem dX9_transpose_61 : decode cX9_transpose 61 = .ok (.putfield 191, 3) := by decide +kernel
theorem dX9_transpose_64 : decode cX9_transpose 64 = .ok (.aload_n 0, 1) := by decide +kernel
theorem dX9_transpose_65 : decode cX9_transpose 65 = .ok (.getfield 22, 3) := by decide +kernel
theorem dX9_transpose_68 : decode cX9_transpose 68 = .ok (.iload_n 1, 1) := by decide +kernel
theorem dX9_transpose_69 : decode cX9_transpose 69 = .ok (.aload_n 0, 1) := by decide +kernel
theorem dX9_transpose_70 : decode cX9_transpose 70 = .ok (.getfield 54, 3) := by decide +kernel
theorem dX9_transpose_73 : decode cX9_transpose 73 = .ok (.invokevirtual 228, 3) := by decide +kernel
theorem dX9_transpose_76 : decode cX9_transpose 76 = .ok (.pop, 1) := by decide +kernel
theorem dX9_transpose_77 : decode cX9_transpose 77 = .ok (.aload_n 0, 1) := by decide +kernel
theorem dX9_transpose_78 : decode cX9_transpose 78 = .ok (.getfield 22, 3) := by decide +kernel
theorem dX9_transpose_81 : decode cX9_transpose 81 = .ok (.getfield 191, 3) := by decide +kernel
theorem dX9_transpose_84 : decode cX9_transpose 84 = .ok (.ireturn, 1) := by decide +kernel
theorem dX9_respell_0 : decode cX9_respell 0 = .ok (.aload_n 0, 1) := by decide +kernel
theorem dX9_respell_1 : decode cX9_respell 1 = .ok (.getfield 32, 3) := by decide +kernel
theorem dX9_respell_4 : decode cX9_respell 4 = .ok (.aload_n 0, 1) := by decide +kernel
theorem dX9_respell_5 : decode cX9_respell 5 = .ok (.getfield 22, 3) := by decide +kernel
theorem dX9_respell_8 : decode cX9_respell 8 = .ok (.invokevirtual 93, 3) := by decide +kernel
theorem dX9_respell_11 : decode cX9_respell 11 = .ok (.aload_n 0, 1) := by decide +kernel
theorem dX9_respell_12 : decode cX9_respell 12 = .ok (.getfield 22, 3) := by decide +kernel
theorem dX9_respell_15 : decode cX9_respell 15 = .ok (.iconst 0, 1) := by decide +kernel
theorem dX9_respell_16 : decode cX9_respell 16 = .ok (.aload_n 0, 1) := by decide +kernel
theorem dX9_respell_17 : decode cX9_respell 17 = .ok (.getfield 54, 3) := by decide +kernel
theorem dX9_respell_20 : decode cX9_respell 20 = .ok (.invokevirtual 228, 3) := by decide +kernel
theorem dX9_respell_23 : decode cX9_respell 23 = .ok (.ireturn, 1) := by decide +kernel
theorem dX9_difficulty_0 : decode cX9_difficulty 0 = .ok (.iload_n 1, 1) := by decide +kernel
theorem dX9_difficulty_1 : decode cX9_difficulty 1 = .ok (.ifCond .lt 9, 3) := by decide +kernel
theorem dX9_difficulty_4 : decode cX9_difficulty 4 = .ok (.iload_n 1, 1) := by decide +kernel
theorem dX9_difficulty_5 : decode cX9_difficulty 5 = .ok (.bipush 7, 2) := by decide +kernel
theorem dX9_difficulty_7 : decode cX9_difficulty 7 = .ok (.if_icmp .le 13, 3) := by decide +kernel
theorem dX9_difficulty_10 : decode cX9_difficulty 10 = .ok (.new 65, 3) := by decide +kernel
theorem dX9_difficulty_13 : decode cX9_difficulty 13 = .ok (.dup, 1) := by decide +kernel
theorem dX9_difficulty_14 : decode cX9_difficulty 14 = .ok (.ldc 231, 2) := by decide +kernel
theorem dX9_difficulty_16 : decode cX9_difficulty 16 = .ok (.invokespecial 69, 3) := by decide +kernel
theorem dX9_difficulty_19 : decode cX9_difficulty 19 = .ok (.athrow, 1) := by decide +kernel
theorem dX9_difficulty_20 : decode cX9_difficulty 20 = .ok (.aload_n 0, 1) := by decide +kernel
theorem dX9_difficulty_21 : decode cX9_difficulty 21 = .ok (.getfield 22, 3) := by decide +kernel
theorem dX9_difficulty_24 : decode cX9_difficulty 24 = .ok (.iload_n 1, 1) := by decide +kernel
theorem dX9_difficulty_25 : decode cX9_difficulty 25 = .ok (.invokestatic 233, 3) := by decide +kernel
theorem dX9_difficulty_28 : decode cX9_difficulty 28 = .ok (.ireturn, 1) := by decide +kernel
theorem dX9_bestCapo_0 : decode cX9_bestCapo 0 = .ok (.aload_n 0, 1) := by decide +kernel
theorem dX9_bestCapo_1 : decode cX9_bestCapo 1 = .ok (.getfield 22, 3) := by decide +kernel
theorem dX9_bestCapo_4 : decode cX9_bestCapo 4 = .ok (.invokestatic 239, 3) := by decide +kernel
theorem dX9_bestCapo_7 : decode cX9_bestCapo 7 = .ok (.ireturn, 1) := by decide +kernel
theorem dX9_pairs_0 : decode cX9_pairs 0 = .ok (.aload_n 0, 1) := by decide +kernel
theorem dX9_pairs_1 : decode cX9_pairs 1 = .ok (.iload_n 1, 1) := by decide +kernel
theorem dX9_pairs_2 : decode cX9_pairs 2 = .ok (.invokevirtual 115, 3) := by decide +kernel
theorem dX9_pairs_5 : decode cX9_pairs 5 = .ok (.aload_n 0, 1) := by decide +kernel
theorem dX9_pairs_6 : decode cX9_pairs 6 = .ok (.getfield 50, 3) := by decide +kernel
theorem dX9_pairs_9 : decode cX9_pairs 9 = .ok (.iload_n 1, 1) := by decide +kernel
theorem dX9_pairs_10 : decode cX9_pairs 10 = .ok (.aload_n 0, 1) := by decide +kernel
theorem dX9_pairs_11 : decode cX9_pairs 11 = .ok (.getfield 61, 3) := by decide +kernel
theorem dX9_pairs_14 : decode cX9_pairs 14 = .ok (.invokevirtual 242, 3) := by decide +kernel
theorem dX9_pairs_17 : decode cX9_pairs 17 = .ok (.ireturn, 1) := by decide +kernel
theorem dX9_rowLength_0 : decode cX9_rowLength 0 = .ok (.aload_n 0, 1) := by decide +kernel
theorem dX9_rowLength_1 : decode cX9_rowLength 1 = .ok (.getfield 50, 3) := by decide +kernel
theorem dX9_rowLength_4 : decode cX9_rowLength 4 = .ok (.iload_n 1, 1) := by decide +kernel
theorem dX9_rowLength_5 : decode cX9_rowLength 5 = .ok (.iload_n 2, 1) := by decide +kernel
theorem dX9_rowLength_6 : decode cX9_rowLength 6 = .ok (.iload_n 3, 1) := by decide +kernel
theorem dX9_rowLength_7 : decode cX9_rowLength 7 = .ok (.aload_n 0, 1) := by decide +kernel
theorem dX9_rowLength_8 : decode cX9_rowLength 8 = .ok (.getfield 61, 3) := by decide +kernel
theorem dX9_rowLength_11 : decode cX9_rowLength 11 = .ok (.invokevirtual 245, 3) := by decide +kernel
theorem dX9_rowLength_14 : decode cX9_rowLength 14 = .ok (.astore 4, 2) := by decide +kernel
theorem dX9_rowLength_16 : decode cX9_rowLength 16 = .ok (.aload 4, 2) := by decide +kernel
theorem dX9_rowLength_18 : decode cX9_rowLength 18 = .ok (.ifnonnull 13, 3) := by decide +kernel
theorem dX9_rowLength_21 : decode cX9_rowLength 21 = .ok (.new 122, 3) := by decide +kernel
theorem dX9_rowLength_24 : decode cX9_rowLength 24 = .ok (.dup, 1) := by decide +kernel
theorem dX9_rowLength_25 : decode cX9_rowLength 25 = .ok (.ldc 249, 2) := by decide +kernel
theorem dX9_rowLength_27 : decode cX9_rowLength 27 = .ok (.invokespecial 126, 3) := by decide +kernel
theorem dX9_rowLength_30 : decode cX9_rowLength 30 = .ok (.athrow, 1) := by decide +kernel
theorem dX9_rowLength_31 : decode cX9_rowLength 31 = .ok (.aload 4, 2) := by decide +kernel
theorem dX9_rowLength_33 : decode cX9_rowLength 33 = .ok (.invokevirtual 72, 3) := by decide +kernel
theorem dX9_rowLength_36 : decode cX9_rowLength 36 = .ok (.ireturn, 1) := by decide +kernel
theorem dX9_rowChar_0 : decode cX9_rowChar 0 = .ok (.aload_n 0, 1) := by decide +kernel
theorem dX9_rowChar_1 : decode cX9_rowChar 1 = .ok (.getfield 50, 3) := by decide +kernel
theorem dX9_rowChar_4 : decode cX9_rowChar 4 = .ok (.iload_n 1, 1) := by decide +kernel
theorem dX9_rowChar_5 : decode cX9_rowChar 5 = .ok (.iload_n 2, 1) := by decide +kernel
theorem dX9_rowChar_6 : decode cX9_rowChar 6 = .ok (.iload_n 3, 1) := by decide +kernel
theorem dX9_rowChar_7 : decode cX9_rowChar 7 = .ok (.aload_n 0, 1) := by decide +kernel
theorem dX9_rowChar_8 : decode cX9_rowChar 8 = .ok (.getfield 61, 3) := by decide +kernel
theorem dX9_rowChar_11 : decode cX9_rowChar 11 = .ok (.invokevirtual 245, 3) := by decide +kernel
theorem dX9_rowChar_14 : decode cX9_rowChar 14 = .ok (.astore 5, 2) := by decide +kernel
theorem dX9_rowChar_16 : decode cX9_rowChar 16 = .ok (.aload 5, 2) := by decide +kernel
theorem dX9_rowChar_18 : decode cX9_rowChar 18 = .ok (.ifnonnull 13, 3) := by decide +kernel
theorem dX9_rowChar_21 : decode cX9_rowChar 21 = .ok (.new 122, 3) := by decide +kernel
theorem dX9_rowChar_24 : decode cX9_rowChar 24 = .ok (.dup, 1) := by decide +kernel
theorem dX9_rowChar_25 : decode cX9_rowChar 25 = .ok (.ldc 249, 2) := by decide +kernel
theorem dX9_rowChar_27 : decode cX9_rowChar 27 = .ok (.invokespecial 126, 3) := by decide +kernel
theorem dX9_rowChar_30 : decode cX9_rowChar 30 = .ok (.athrow, 1) := by decide +kernel
theorem dX9_rowChar_31 : decode cX9_rowChar 31 = .ok (.aload_n 0, 1) := by decide +kernel
theorem dX9_rowChar_32 : decode cX9_rowChar 32 = .ok (.iload 4, 2) := by decide +kernel
theorem dX9_rowChar_34 : decode cX9_rowChar 34 = .ok (.invokevirtual 137, 3) := by decide +kernel
theorem dX9_rowChar_37 : decode cX9_rowChar 37 = .ok (.aload 5, 2) := by decide +kernel
theorem dX9_rowChar_39 : decode cX9_rowChar 39 = .ok (.iload 4, 2) := by decide +kernel
theorem dX9_rowChar_41 : decode cX9_rowChar 41 = .ok (.invokevirtual 144, 3) := by decide +kernel
theorem dX9_rowChar_44 : decode cX9_rowChar 44 = .ok (.ireturn, 1) := by decide +kernel
theorem dX9_undo_0 : decode cX9_undo 0 = .ok (.aload_n 0, 1) := by decide +kernel
theorem dX9_undo_1 : decode cX9_undo 1 = .ok (.getfield 32, 3) := by decide +kernel
theorem dX9_undo_4 : decode cX9_undo 4 = .ok (.invokevirtual 251, 3) := by decide +kernel
theorem dX9_undo_7 : decode cX9_undo 7 = .ok (.ifCond .eq 13, 3) := by decide +kernel
theorem dX9_undo_10 : decode cX9_undo 10 = .ok (.new 76, 3) := by decide +kernel
theorem dX9_undo_13 : decode cX9_undo 13 = .ok (.dup, 1) := by decide +kernel
theorem dX9_undo_14 : decode cX9_undo 14 = .ok (.ldc 255, 2) := by decide +kernel
theorem dX9_undo_16 : decode cX9_undo 16 = .ok (.invokespecial 80, 3) := by decide +kernel
theorem dX9_undo_19 : decode cX9_undo 19 = .ok (.athrow, 1) := by decide +kernel
theorem dX9_undo_20 : decode cX9_undo 20 = .ok (.aload_n 0, 1) := by decide +kernel
theorem dX9_undo_21 : decode cX9_undo 21 = .ok (.getfield 32, 3) := by decide +kernel
theorem dX9_undo_24 : decode cX9_undo 24 = .ok (.aload_n 0, 1) := by decide +kernel
theorem dX9_undo_25 : decode cX9_undo 25 = .ok (.getfield 22, 3) := by decide +kernel
theorem dX9_undo_28 : decode cX9_undo 28 = .ok (.invokevirtual 257, 3) := by decide +kernel
theorem dX9_undo_31 : decode cX9_undo 31 = .ok (.ireturn, 1) := by decide +kernel
theorem dX9_fingerprint_0 : decode cX9_fingerprint 0 = .ok (.aload_n 0, 1) := by decide +kernel
theorem dX9_fingerprint_1 : decode cX9_fingerprint 1 = .ok (.getfield 22, 3) := by decide +kernel
theorem dX9_fingerprint_4 : decode cX9_fingerprint 4 = .ok (.ldc2_w 260, 3) := by decide +kernel
theorem dX9_fingerprint_7 : decode cX9_fingerprint 7 = .ok (.invokevirtual 262, 3) := by decide +kernel
theorem dX9_fingerprint_10 : decode cX9_fingerprint 10 = .ok (.lstore_n 1, 1) := by decide +kernel
theorem dX9_fingerprint_11 : decode cX9_fingerprint 11 = .ok (.ldc2_w 266, 3) := by decide +kernel
theorem dX9_fingerprint_14 : decode cX9_fingerprint 14 = .ok (.lload_n 1, 1) := by decide +kernel
theorem dX9_fingerprint_15 : decode cX9_fingerprint 15 = .ok (.lmul, 1) := by decide +kernel
theorem dX9_fingerprint_16 : decode cX9_fingerprint 16 = .ok (.aload_n 0, 1) := by decide +kernel
theorem dX9_fingerprint_17 : decode cX9_fingerprint 17 = .ok (.invokevirtual 218, 3) := by decide +kernel
theorem dX9_fingerprint_20 : decode cX9_fingerprint 20 = .ok (.i2l, 1) := by decide +kernel
theorem dX9_fingerprint_21 : decode cX9_fingerprint 21 = .ok (.ladd, 1) := by decide +kernel
theorem dX9_fingerprint_22 : decode cX9_fingerprint 22 = .ok (.lstore_n 1, 1) := by decide +kernel
theorem dX9_fingerprint_23 : decode cX9_fingerprint 23 = .ok (.ldc2_w 266, 3) := by decide +kernel
theorem dX9_fingerprint_26 : decode cX9_fingerprint 26 = .ok (.lload_n 1, 1) := by decide +kernel
theorem dX9_fingerprint_27 : decode cX9_fingerprint 27 = .ok (.lmul, 1) := by decide +kernel
theorem dX9_fingerprint_28 : decode cX9_fingerprint 28 = .ok (.aload_n 0, 1) := by decide +kernel
theorem dX9_fingerprint_29 : decode cX9_fingerprint 29 = .ok (.getfield 22, 3) := by decide +kernel
theorem dX9_fingerprint_32 : decode cX9_fingerprint 32 = .ok (.getfield 194, 3) := by decide +kernel
theorem dX9_fingerprint_35 : decode cX9_fingerprint 35 = .ok (.ifCond .eq 7, 3) := by decide +kernel
theorem dX9_fingerprint_38 : decode cX9_fingerprint 38 = .ok (.iconst 1, 1) := by decide +kernel
theorem dX9_fingerprint_39 : decode cX9_fingerprint 39 = .ok (.goto 4, 3) := by decide +kernel
theorem dX9_fingerprint_42 : decode cX9_fingerprint 42 = .ok (.iconst 0, 1) := by decide +kernel
theorem dX9_fingerprint_43 : decode cX9_fingerprint 43 = .ok (.i2l, 1) := by decide +kernel
theorem dX9_fingerprint_44 : decode cX9_fingerprint 44 = .ok (.ladd, 1) := by decide +kernel
theorem dX9_fingerprint_45 : decode cX9_fingerprint 45 = .ok (.lreturn, 1) := by decide +kernel
theorem dX9_takeKey_0 : decode cX9_takeKey 0 = .ok (.iload_n 1, 1) := by decide +kernel
theorem dX9_takeKey_1 : decode cX9_takeKey 1 = .ok (.bipush 6, 2) := by decide +kernel
theorem dX9_takeKey_3 : decode cX9_takeKey 3 = .ok (.if_icmp .le 7, 3) := by decide +kernel
theorem dX9_takeKey_6 : decode cX9_takeKey 6 = .ok (.iconst 1, 1) := by decide +kernel
theorem dX9_takeKey_7 : decode cX9_takeKey 7 = .ok (.goto 4, 3) := by decide +kernel
theorem dX9_takeKey_10 : decode cX9_takeKey 10 = .ok (.iconst 0, 1) := by decide +kernel
theorem dX9_takeKey_11 : decode cX9_takeKey 11 = .ok (.istore_n 2, 1) := by decide +kernel
theorem dX9_takeKey_12 : decode cX9_takeKey 12 = .ok (.iload_n 2, 1) := by decide +kernel
theorem dX9_takeKey_13 : decode cX9_takeKey 13 = .ok (.ifCond .eq 10, 3) := by decide +kernel
theorem dX9_takeKey_16 : decode cX9_takeKey 16 = .ok (.iload_n 1, 1) := by decide +kernel
theorem dX9_takeKey_17 : decode cX9_takeKey 17 = .ok (.bipush 100, 2) := by decide +kernel
theorem dX9_takeKey_19 : decode cX9_takeKey 19 = .ok (.isub, 1) := by decide +kernel
theorem dX9_takeKey_20 : decode cX9_takeKey 20 = .ok (.goto 4, 3) := by decide +kernel
theorem dX9_takeKey_23 : decode cX9_takeKey 23 = .ok (.iload_n 1, 1) := by decide +kernel
theorem dX9_takeKey_24 : decode cX9_takeKey 24 = .ok (.istore_n 3, 1) := by decide +kernel
theorem dX9_takeKey_25 : decode cX9_takeKey 25 = .ok (.aload_n 0, 1) := by decide +kernel
theorem dX9_takeKey_26 : decode cX9_takeKey 26 = .ok (.getfield 22, 3) := by decide +kernel
theorem dX9_takeKey_29 : decode cX9_takeKey 29 = .ok (.iload_n 3, 1) := by decide +kernel
theorem dX9_takeKey_30 : decode cX9_takeKey 30 = .ok (.iload_n 2, 1) := by decide +kernel
theorem dX9_takeKey_31 : decode cX9_takeKey 31 = .ok (.invokestatic 209, 3) := by decide +kernel
theorem dX9_takeKey_34 : decode cX9_takeKey 34 = .ok (.putfield 191, 3) := by decide +kernel
theorem dX9_takeKey_37 : decode cX9_takeKey 37 = .ok (.aload_n 0, 1) := by decide +kernel
theorem dX9_takeKey_38 : decode cX9_takeKey 38 = .ok (.getfield 22, 3) := by decide +kernel
theorem dX9_takeKey_41 : decode cX9_takeKey 41 = .ok (.iload_n 2, 1) := by decide +kernel
theorem dX9_takeKey_42 : decode cX9_takeKey 42 = .ok (.putfield 194, 3) := by decide +kernel
theorem dX9_takeKey_45 : decode cX9_takeKey 45 = .ok (.return_, 1) := by decide +kernel
theorem dX9_requireLine_0 : decode cX9_requireLine 0 = .ok (.aload_n 0, 1) := by decide +kernel
theorem dX9_requireLine_1 : decode cX9_requireLine 1 = .ok (.getfield 22, 3) := by decide +kernel
theorem dX9_requireLine_4 : decode cX9_requireLine 4 = .ok (.iload_n 1, 1) := by decide +kernel
theorem dX9_requireLine_5 : decode cX9_requireLine 5 = .ok (.invokevirtual 268, 3) := by decide +kernel
theorem dX9_requireLine_8 : decode cX9_requireLine 8 = .ok (.ifCond .ne 14, 3) := by decide +kernel
theorem dX9_requireLine_11 : decode cX9_requireLine 11 = .ok (.new 122, 3) := by decide +kernel
theorem dX9_requireLine_14 : decode cX9_requireLine 14 = .ok (.dup, 1) := by decide +kernel
theorem dX9_requireLine_15 : decode cX9_requireLine 15 = .ok (.ldc_w 272, 3) := by decide +kernel
theorem dX9_requireLine_18 : decode cX9_requireLine 18 = .ok (.invokespecial 126, 3) := by decide +kernel
theorem dX9_requireLine_21 : decode cX9_requireLine 21 = .ok (.athrow, 1) := by decide +kernel
theorem dX9_requireLine_22 : decode cX9_requireLine 22 = .ok (.return_, 1) := by decide +kernel
theorem dX9_requireChordColumn_0 : decode cX9_requireChordColumn 0 = .ok (.iload_n 2, 1) := by decide +kernel
theorem dX9_requireChordColumn_1 : decode cX9_requireChordColumn 1 = .ok (.ifCond .lt 15, 3) := by decide +kernel
theorem dX9_requireChordColumn_4 : decode cX9_requireChordColumn 4 = .ok (.iload_n 2, 1) := by decide +kernel
theorem dX9_requireChordColumn_5 : decode cX9_requireChordColumn 5 = .ok (.aload_n 0, 1) := by decide +kernel
theorem dX9_requireChordColumn_6 : decode cX9_requireChordColumn 6 = .ok (.getfield 22, 3) := by decide +kernel
theorem dX9_requireChordColumn_9 : decode cX9_requireChordColumn 9 = .ok (.iload_n 1, 1) := by decide +kernel
theorem dX9_requireChordColumn_10 : decode cX9_requireChordColumn 10 = .ok (.invokevirtual 118, 3) := by decide +kernel
theorem dX9_requireChordColumn_13 : decode cX9_requireChordColumn 13 = .ok (.if_icmp .le 13, 3) := by decide +kernel
theorem dX9_requireChordColumn_16 : decode cX9_requireChordColumn 16 = .ok (.new 122, 3) := by decide +kernel
theorem dX9_requireChordColumn_19 : decode cX9_requireChordColumn 19 = .ok (.dup, 1) := by decide +kernel
theorem dX9_requireChordColumn_20 : decode cX9_requireChordColumn 20 = .ok (.ldc 124, 2) := by decide +kernel
theorem dX9_requireChordColumn_22 : decode cX9_requireChordColumn 22 = .ok (.invokespecial 126, 3) := by decide +kernel
theorem dX9_requireChordColumn_25 : decode cX9_requireChordColumn 25 = .ok (.athrow, 1) := by decide +kernel
theorem dX9_requireChordColumn_26 : decode cX9_requireChordColumn 26 = .ok (.return_, 1) := by decide +kernel
theorem dX9_requireChord_0 : decode cX9_requireChord 0 = .ok (.iload_n 1, 1) := by decide +kernel
theorem dX9_requireChord_1 : decode cX9_requireChord 1 = .ok (.ifCond .lt 14, 3) := by decide +kernel
theorem dX9_requireChord_4 : decode cX9_requireChord 4 = .ok (.iload_n 1, 1) := by decide +kernel
theorem dX9_requireChord_5 : decode cX9_requireChord 5 = .ok (.aload_n 0, 1) := by decide +kernel
theorem dX9_requireChord_6 : decode cX9_requireChord 6 = .ok (.getfield 22, 3) := by decide +kernel
theorem dX9_requireChord_9 : decode cX9_requireChord 9 = .ok (.invokevirtual 107, 3) := by decide +kernel
theorem dX9_requireChord_12 : decode cX9_requireChord 12 = .ok (.if_icmp .lt 14, 3) := by decide +kernel
theorem dX9_requireChord_15 : decode cX9_requireChord 15 = .ok (.new 122, 3) := by decide +kernel
theorem dX9_requireChord_18 : decode cX9_requireChord 18 = .ok (.dup, 1) := by decide +kernel
theorem dX9_requireChord_19 : decode cX9_requireChord 19 = .ok (.ldc_w 274, 3) := by decide +kernel
theorem dX9_requireChord_22 : decode cX9_requireChord 22 = .ok (.invokespecial 126, 3) := by decide +kernel
theorem dX9_requireChord_25 : decode cX9_requireChord 25 = .ok (.athrow, 1) := by decide +kernel
theorem dX9_requireChord_26 : decode cX9_requireChord 26 = .ok (.return_, 1) := by decide +kernel
theorem dX9_requireIndex_0 : decode cX9_requireIndex 0 = .ok (.iload_n 1, 1) := by decide +kernel
theorem dX9_requireIndex_1 : decode cX9_requireIndex 1 = .ok (.ifCond .ge 14, 3) := by decide +kernel
theorem dX9_requireIndex_4 : decode cX9_requireIndex 4 = .ok (.new 122, 3) := by decide +kernel
theorem dX9_requireIndex_7 : decode cX9_requireIndex 7 = .ok (.dup, 1) := by decide +kernel
theorem dX9_requireIndex_8 : decode cX9_requireIndex 8 = .ok (.ldc_w 276, 3) := by decide +kernel
theorem dX9_requireIndex_11 : decode cX9_requireIndex 11 = .ok (.invokespecial 126, 3) := by decide +kernel
theorem dX9_requireIndex_14 : decode cX9_requireIndex 14 = .ok (.athrow, 1) := by decide +kernel
theorem dX9_requireIndex_15 : decode cX9_requireIndex 15 = .ok (.return_, 1) := by decide +kernel
theorem dX9_requireTonic_0 : decode cX9_requireTonic 0 = .ok (.iload_n 2, 1) := by decide +kernel
theorem dX9_requireTonic_1 : decode cX9_requireTonic 1 = .ok (.ifCond .eq 7, 3) := by decide +kernel
theorem dX9_requireTonic_4 : decode cX9_requireTonic 4 = .ok (.iconst 3, 1) := by decide +kernel
theorem dX9_requireTonic_5 : decode cX9_requireTonic 5 = .ok (.goto 4, 3) := by decide +kernel
theorem dX9_requireTonic_8 : decode cX9_requireTonic 8 = .ok (.iconst 0, 1) := by decide +kernel
theorem dX9_requireTonic_9 : decode cX9_requireTonic 9 = .ok (.istore_n 3, 1) := by decide +kernel
theorem dX9_requireTonic_10 : decode cX9_requireTonic 10 = .ok (.iload_n 1, 1) := by decide +kernel
theorem dX9_requireTonic_11 : decode cX9_requireTonic 11 = .ok (.iload_n 3, 1) := by decide +kernel
theorem dX9_requireTonic_12 : decode cX9_requireTonic 12 = .ok (.bipush 6, 2) := by decide +kernel
theorem dX9_requireTonic_14 : decode cX9_requireTonic 14 = .ok (.isub, 1) := by decide +kernel
theorem dX9_requireTonic_15 : decode cX9_requireTonic 15 = .ok (.if_icmp .lt 11, 3) := by decide +kernel
theorem dX9_requireTonic_18 : decode cX9_requireTonic 18 = .ok (.iload_n 1, 1) := by decide +kernel
theorem dX9_requireTonic_19 : decode cX9_requireTonic 19 = .ok (.iload_n 3, 1) := by decide +kernel
theorem dX9_requireTonic_20 : decode cX9_requireTonic 20 = .ok (.bipush 6, 2) := by decide +kernel
theorem dX9_requireTonic_22 : decode cX9_requireTonic 22 = .ok (.iadd, 1) := by decide +kernel
theorem dX9_requireTonic_23 : decode cX9_requireTonic 23 = .ok (.if_icmp .le 14, 3) := by decide +kernel
theorem dX9_requireTonic_26 : decode cX9_requireTonic 26 = .ok (.new 65, 3) := by decide +kernel
theorem dX9_requireTonic_29 : decode cX9_requireTonic 29 = .ok (.dup, 1) := by decide +kernel
theorem dX9_requireTonic_30 : decode cX9_requireTonic 30 = .ok (.ldc_w 278, 3) := by decide +kernel
theorem dX9_requireTonic_33 : decode cX9_requireTonic 33 = .ok (.invokespecial 69, 3) := by decide +kernel
theorem dX9_requireTonic_36 : decode cX9_requireTonic 36 = .ok (.athrow, 1) := by decide +kernel
theorem dX9_requireTonic_37 : decode cX9_requireTonic 37 = .ok (.return_, 1) := by decide +kernel
end
section
theorem dX10_init_0 : decode cX10_init 0 = .ok (.aload_n 0, 1) := by decide +kernel
theorem dX10_init_1 : decode cX10_init 1 = .ok (.invokespecial 1, 3) := by decide +kernel
theorem dX10_init_4 : decode cX10_init 4 = .ok (.aload_n 0, 1) := by decide +kernel
theorem dX10_init_5 : decode cX10_init 5 = .ok (.sipush 620, 3) := by decide +kernel
theorem dX10_init_8 : decode cX10_init 8 = .ok (.newarray .int, 2) := by decide +kernel
theorem dX10_init_10 : decode cX10_init 10 = .ok (.putfield 7, 3) := by decide +kernel
theorem dX10_init_13 : decode cX10_init 13 = .ok (.aload_n 0, 1) := by decide +kernel
theorem dX10_init_14 : decode cX10_init 14 = .ok (.sipush 4960, 3) := by decide +kernel
theorem dX10_init_17 : decode cX10_init 17 = .ok (.newarray .int, 2) := by decide +kernel
theorem dX10_init_19 : decode cX10_init 19 = .ok (.putfield 13, 3) := by decide +kernel
theorem dX10_init_22 : decode cX10_init 22 = .ok (.aload_n 0, 1) := by decide +kernel
theorem dX10_init_23 : decode cX10_init 23 = .ok (.sipush 200, 3) := by decide +kernel
theorem dX10_init_26 : decode cX10_init 26 = .ok (.newarray .int, 2) := by decide +kernel
theorem dX10_init_28 : decode cX10_init 28 = .ok (.putfield 16, 3) := by decide +kernel
theorem dX10_init_31 : decode cX10_init 31 = .ok (.aload_n 0, 1) := by decide +kernel
theorem dX10_init_32 : decode cX10_init 32 = .ok (.iconst 1, 1) := by decide +kernel
theorem dX10_init_33 : decode cX10_init 33 = .ok (.putfield 19, 3) := by decide +kernel
theorem dX10_init_36 : decode cX10_init 36 = .ok (.aload_n 0, 1) := by decide +kernel
theorem dX10_init_37 : decode cX10_init 37 = .ok (.sipush 200, 3) := by decide +kernel
theorem dX10_init_40 : decode cX10_init 40 = .ok (.putfield 23, 3) := by decide +kernel
theorem dX10_init_43 : decode cX10_init 43 = .ok (.aload_n 0, 1) := by decide +kernel
theorem dX10_init_44 : decode cX10_init 44 = .ok (.bipush 7, 2) := by decide +kernel
theorem dX10_init_46 : decode cX10_init 46 = .ok (.newarray .char, 2) := by decide +kernel
theorem dX10_init_48 : decode cX10_init 48 = .ok (.dup, 1) := by decide +kernel
theorem dX10_init_49 : decode cX10_init 49 = .ok (.iconst 0, 1) := by decide +kernel
theorem dX10_init_50 : decode cX10_init 50 = .ok (.bipush 70, 2) := by decide +kernel
theorem dX10_init_52 : decode cX10_init 52 = .ok (.castore, 1) := by decide +kernel
theorem dX10_init_53 : decode cX10_init 53 = .ok (.dup, 1) := by decide +kernel
theorem dX10_init_54 : decode cX10_init 54 = .ok (.iconst 1, 1) := by decide +kernel
theorem dX10_init_55 : decode cX10_init 55 = .ok (.bipush 67, 2) := by decide +kernel
theorem dX10_init_57 : decode cX10_init 57 = .ok (.castore, 1) := by decide +kernel
theorem dX10_init_58 : decode cX10_init 58 = .ok (.dup, 1) := by decide +kernel
theorem dX10_init_59 : decode cX10_init 59 = .ok (.iconst 2, 1) := by decide +kernel
theorem dX10_init_60 : decode cX10_init 60 = .ok (.bipush 71, 2) := by decide +kernel
theorem dX10_init_62 : decode cX10_init 62 = .ok (.castore, 1) := by decide +kernel
theorem dX10_init_63 : decode cX10_init 63 = .ok (.dup, 1) := by decide +kernel
theorem dX10_init_64 : decode cX10_init 64 = .ok (.iconst 3, 1) := by decide +kernel
theorem dX10_init_65 : decode cX10_init 65 = .ok (.bipush 68, 2) := by decide +kernel
theorem dX10_init_67 : decode cX10_init 67 = .ok (.castore, 1) := by decide +kernel
theorem dX10_init_68 : decode cX10_init 68 = .ok (.dup, 1) := by decide +kernel
theorem dX10_init_69 : decode cX10_init 69 = .ok (.iconst 4, 1) := by decide +kernel
theorem dX10_init_70 : decode cX10_init 70 = .ok (.bipush 65, 2) := by decide +kernel
theorem dX10_init_72 : decode cX10_init 72 = .ok (.castore, 1) := by decide +kernel
theorem dX10_init_73 : decode cX10_init 73 = .ok (.dup, 1) := by decide +kernel
theorem dX10_init_74 : decode cX10_init 74 = .ok (.iconst 5, 1) := by decide +kernel
theorem dX10_init_75 : decode cX10_init 75 = .ok (.bipush 69, 2) := by decide +kernel
theorem dX10_init_77 : decode cX10_init 77 = .ok (.castore, 1) := by decide +kernel
theorem dX10_init_78 : decode cX10_init 78 = .ok (.dup, 1) := by decide +kernel
theorem dX10_init_79 : decode cX10_init 79 = .ok (.bipush 6, 2) := by decide +kernel
theorem dX10_init_81 : decode cX10_init 81 = .ok (.bipush 66, 2) := by decide +kernel
theorem dX10_init_83 : decode cX10_init 83 = .ok (.castore, 1) := by decide +kernel
theorem dX10_init_84 : decode cX10_init 84 = .ok (.putfield 27, 3) := by decide +kernel
theorem dX10_init_87 : decode cX10_init 87 = .ok (.aload_n 0, 1) := by decide +kernel
theorem dX10_init_88 : decode cX10_init 88 = .ok (.bipush 30, 2) := by decide +kernel
theorem dX10_init_90 : decode cX10_init 90 = .ok (.newarray .char, 2) := by decide +kernel
theorem dX10_init_92 : decode cX10_init 92 = .ok (.dup, 1) := by decide +kernel
theorem dX10_init_93 : decode cX10_init 93 = .ok (.iconst 0, 1) := by decide +kernel
theorem dX10_init_94 : decode cX10_init 94 = .ok (.bipush 59, 2) := by decide +kernel
theorem dX10_init_96 : decode cX10_init 96 = .ok (.castore, 1) := by decide +kernel
theorem dX10_init_97 : decode cX10_init 97 = .ok (.dup, 1) := by decide +kernel
theorem dX10_init_98 : decode cX10_init 98 = .ok (.iconst 1, 1) := by decide +kernel
theorem dX10_init_99 : decode cX10_init 99 = .ok (.bipush 109, 2) := by decide +kernel
theorem dX10_init_101 : decode cX10_init 101 = .ok (.castore, 1) := by decide +kernel
theorem dX10_init_102 : decode cX10_init 102 = .ok (.dup, 1) := by decide +kernel
theorem dX10_init_103 : decode cX10_init 103 = .ok (.iconst 2, 1) := by decide +kernel
theorem dX10_init_104 : decode cX10_init 104 = .ok (.bipush 59, 2) := by decide +kernel
theorem dX10_init_106 : decode cX10_init 106 = .ok (.castore, 1) := by decide +kernel
theorem dX10_init_107 : decode cX10_init 107 = .ok (.dup, 1) := by decide +kernel
theorem dX10_init_108 : decode cX10_init 108 = .ok (.iconst 3, 1) := by decide +kernel
theorem dX10_init_109 : decode cX10_init 109 = .ok (.bipush 55, 2) := by decide +kernel
theorem dX10_init_111 : decode cX10_init 111 = .ok (.castore, 1) := by decide +kernel
theorem dX10_init_112 : decode cX10_init 112 = .ok (.dup, 1) := by decide +kernel
theorem dX10_init_113 : decode cX10_init 113 = .ok (.iconst 4, 1) := by decide +kernel
theorem dX10_init_114 : decode cX10_init 114 = .ok (.bipush 59, 2) := by decide +kernel
theorem dX10_init_116 : decode cX10_init 116 = .ok (.castore, 1) := by decide +kernel
theorem dX10_init_117 : decode cX10_init 117 = .ok (.dup, 1) := by decide +kernel
theorem dX10_init_118 : decode cX10_init 118 = .ok (.iconst 5, 1) := by decide +kernel
theorem dX10_init_119 : decode cX10_init 119 = .ok (.bipush 109, 2) := by decide +kernel
theorem dX10_init_121 : decode cX10_init 121 = .ok (.castore, 1) := by decide +kernel
theorem dX10_init_122 : decode cX10_init 122 = .ok (.dup, 1) := by decide +kernel
theorem dX10_init_123 : decode cX10_init 123 = .ok (.bipush 6, 2) := by decide +kernel
theorem dX10_init_125 : decode cX10_init 125 = .ok (.bipush 55, 2) := by decide +kernel
theorem dX10_init_127 : decode cX10_init 127 = .ok (.castore, 1) := by decide +kernel
theorem dX10_init_128 : decode cX10_init 128 = .ok (.dup, 1) := by decide +kernel
theorem dX10_init_129 : decode cX10_init 129 = .ok (.bipush 7, 2) := by decide +kernel
theorem dX10_init_131 : decode cX10_init 131 = .ok (.bipush 59, 2) := by decide +kernel
theorem dX10_init_133 : decode cX10_init 133 = .ok (.castore, 1) := by decide +kernel
theorem dX10_init_134 : decode cX10_init 134 = .ok (.dup, 1) := by decide +kernel
theorem dX10_init_135 : decode cX10_init 135 = .ok (.bipush 8, 2) := by decide +kernel
theorem dX10_init_137 : decode cX10_init 137 = .ok (.bipush 109, 2) := by decide +kernel
theorem dX10_init_139 : decode cX10_init 139 = .ok (.castore, 1) := by decide +kernel
theorem dX10_init_140 : decode cX10_init 140 = .ok (.dup, 1) := by decide +kernel
theorem dX10_init_141 : decode cX10_init 141 = .ok (.bipush 9, 2) := by decide +kernel
theorem dX10_init_143 : decode cX10_init 143 = .ok (.bipush 97, 2) := by decide +kernel
theorem dX10_init_145 : decode cX10_init 145 = .ok (.castore, 1) := by decide +kernel
theorem dX10_init_146 : decode cX10_init 146 = .ok (.dup, 1) := by decide +kernel
theorem dX10_init_147 : decode cX10_init 147 = .ok (.bipush 10, 2) := by decide +kernel
theorem dX10_init_149 : decode cX10_init 149 = .ok (.bipush 106, 2) := by decide +kernel
theorem dX10_init_151 : decode cX10_init 151 = .ok (.castore, 1) := by decide +kernel
theorem dX10_init_152 : decode cX10_init 152 = .ok (.dup, 1) := by decide +kernel
theorem dX10_init_153 : decode cX10_init 153 = .ok (.bipush 11, 2) := by decide +kernel
theorem dX10_init_155 : decode cX10_init 155 = .ok (.bipush 55, 2) := by decide +kernel
theorem dX10_init_157 : decode cX10_init 157 = .ok (.castore, 1) := by decide +kernel
theorem dX10_init_158 : decode cX10_init 158 = .ok (.dup, 1) := by decide +kernel
theorem dX10_init_159 : decode cX10_init 159 = .ok (.bipush 12, 2) := by decide +kernel
theorem dX10_init_161 : decode cX10_init 161 = .ok (.bipush 59, 2) := by decide +kernel
theorem dX10_init_163 : decode cX10_init 163 = .ok (.castore, 1) := by decide +kernel
theorem dX10_init_164 : decode cX10_init 164 = .ok (.dup, 1) := by decide +kernel
theorem dX10_init_165 : decode cX10_init 165 = .ok (.bipush 13, 2) := by decide +kernel
theorem dX10_init_167 : decode cX10_init 167 = .ok (.bipush 100, 2) := by decide +kernel
theorem dX10_init_169 : decode cX10_init 169 = .ok (.castore, 1) := by decide +kernel
theorem dX10_init_170 : decode cX10_init 170 = .ok (.dup, 1) := by decide +kernel
theorem dX10_init_171 : decode cX10_init 171 = .ok (.bipush 14, 2) := by decide +kernel
theorem dX10_init_173 : decode cX10_init 173 = .ok (.bipush 105, 2) := by decide +kernel
theorem dX10_init_175 : decode cX10_init 175 = .ok (.castore, 1) := by decide +kernel
theorem dX10_init_176 : decode cX10_init 176 = .ok (.dup, 1) := by decide +kernel
theorem dX10_init_177 : decode cX10_init 177 = .ok (.bipush 15, 2) := by decide +kernel
theorem dX10_init_179 : decode cX10_init 179 = .ok (.bipush 109, 2) := by decide +kernel
theorem dX10_init_181 : decode cX10_init 181 = .ok (.castore, 1) := by decide +kernel
theorem dX10_init_182 : decode cX10_init 182 = .ok (.dup, 1) := by decide +kernel
theorem dX10_init_183 : decode cX10_init 183 = .ok (.bipush 16, 2) := by decide +kernel
theorem dX10_init_185 : decode cX10_init 185 = .ok (.bipush 59, 2) := by decide +kernel
theorem dX10_init_187 : decode cX10_init 187 = .ok (.castore, 1) := by decide +kernel
theorem dX10_init_188 : decode cX10_init 188 = .ok (.dup, 1) := by decide +kernel
theorem dX10_init_189 : decode cX10_init 189 = .ok (.bipush 17, 2) := by decide +kernel
theorem dX10_init_191 : decode cX10_init 191 = .ok (.bipush 97, 2) := by decide +kernel
theorem dX10_init_193 : decode cX10_init 193 = .ok (.castore, 1) := by decide +kernel
theorem dX10_init_194 : decode cX10_init 194 = .ok (.dup, 1) := by decide +kernel
theorem dX10_init_195 : decode cX10_init 195 = .ok (.bipush 18, 2) := by decide +kernel
theorem dX10_init_197 : decode cX10_init 197 = .ok (.bipush 117, 2) := by decide +kernel
theorem dX10_init_199 : decode cX10_init 199 = .ok (.castore, 1) := by decide +kernel
theorem dX10_init_200 : decode cX10_init 200 = .ok (.dup, 1) := by decide +kernel
theorem dX10_init_201 : decode cX10_init 201 = .ok (.bipush 19, 2) := by decide +kernel
theorem dX10_init_203 : decode cX10_init 203 = .ok (.bipush 103, 2) := by decide +kernel
theorem dX10_init_205 : decode cX10_init 205 = .ok (.castore, 1) := by decide +kernel
theorem dX10_init_206 : decode cX10_init 206 = .ok (.dup, 1) := by decide +kernel
theorem dX10_init_207 : decode cX10_init 207 = .ok (.bipush 20, 2) := by decide +kernel
theorem dX10_init_209 : decode cX10_init 209 = .ok (.bipush 59, 2) := by decide +kernel
theorem dX10_init_211 : decode cX10_init 211 = .ok (.castore, 1) := by decide +kernel
theorem dX10_init_212 : decode cX10_init 212 = .ok (.dup, 1) := by decide +kernel
theorem dX10_init_213 : decode cX10_init 213 = .ok (.bipush 21, 2) := by decide +kernel
theorem dX10_init_215 : decode cX10_init 215 = .ok (.bipush 115, 2) := by decide +kernel
theorem dX10_init_217 : decode cX10_init 217 = .ok (.castore, 1) := by decide +kernel
theorem dX10_init_218 : decode cX10_init 218 = .ok (.dup, 1) := by decide +kernel
theorem dX10_init_219 : decode cX10_init 219 = .ok (.bipush 22, 2) := by decide +kernel
theorem dX10_init_221 : decode cX10_init 221 = .ok (.bipush 117, 2) := by decide +kernel
theorem dX10_init_223 : decode cX10_init 223 = .ok (.castore, 1) := by decide +kernel
theorem dX10_init_224 : decode cX10_init 224 = .ok (.dup, 1) := by decide +kernel
theorem dX10_init_225 : decode cX10_init 225 = .ok (.bipush 23, 2) := by decide +kernel
theorem dX10_init_227 : decode cX10_init 227 = .ok (.bipush 115, 2) := by decide +kernel
theorem dX10_init_229 : decode cX10_init 229 = .ok (.castore, 1) := by decide +kernel
theorem dX10_init_230 : decode cX10_init 230 = .ok (.dup, 1) := by decide +kernel
theorem dX10_init_231 : decode cX10_init 231 = .ok (.bipush 24, 2) := by decide +kernel
theorem dX10_init_233 : decode cX10_init 233 = .ok (.bipush 52, 2) := by decide +kernel
theorem dX10_init_235 : decode cX10_init 235 = .ok (.castore, 1) := by decide +kernel
theorem dX10_init_236 : decode cX10_init 236 = .ok (.dup, 1) := by decide +kernel
theorem dX10_init_237 : decode cX10_init 237 = .ok (.bipush 25, 2) := by decide +kernel
theorem dX10_init_239 : decode cX10_init 239 = .ok (.bipush 59, 2) := by decide +kernel
theorem dX10_init_241 : decode cX10_init 241 = .ok (.castore, 1) := by decide +kernel
theorem dX10_init_242 : decode cX10_init 242 = .ok (.dup, 1) := by decide +kernel
theorem dX10_init_243 : decode cX10_init 243 = .ok (.bipush 26, 2) := by decide +kernel
theorem dX10_init_245 : decode cX10_init 245 = .ok (.bipush 54, 2) := by decide +kernel
theorem dX10_init_247 : decode cX10_init 247 = .ok (.castore, 1) := by decide +kernel
theorem dX10_init_248 : decode cX10_init 248 = .ok (.dup, 1) := by decide +kernel
theorem dX10_init_249 : decode cX10_init 249 = .ok (.bipush 27, 2) := by decide +kernel
theorem dX10_init_251 : decode cX10_init 251 = .ok (.bipush 59, 2) := by decide +kernel
theorem dX10_init_253 : decode cX10_init 253 = .ok (.castore, 1) := by decide +kernel
theorem dX10_init_254 : decode cX10_init 254 = .ok (.dup, 1) := by decide +kernel
theorem dX10_init_255 : decode cX10_init 255 = .ok (.bipush 28, 2) := by decide +kernel
theorem dX10_init_257 : decode cX10_init 257 = .ok (.bipush 57, 2) := by decide +kernel
theorem dX10_init_259 : decode cX10_init 259 = .ok (.castore, 1) := by decide +kernel
theorem dX10_init_260 : decode cX10_init 260 = .ok (.dup, 1) := by decide +kernel
theorem dX10_init_261 : decode cX10_init 261 = .ok (.bipush 29, 2) := by decide +kernel
theorem dX10_init_263 : decode cX10_init 263 = .ok (.bipush 59, 2) := by decide +kernel
theorem dX10_init_265 : decode cX10_init 265 = .ok (.castore, 1) := by decide +kernel
theorem dX10_init_266 : decode cX10_init 266 = .ok (.putfield 31, 3) := by decide +kernel
theorem dX10_init_269 : decode cX10_init 269 = .ok (.aload_n 0, 1) := by decide +kernel
theorem dX10_init_270 : decode cX10_init 270 = .ok (.sipush 620, 3) := by decide +kernel
theorem dX10_init_273 : decode cX10_init 273 = .ok (.newarray .int, 2) := by decide +kernel
theorem dX10_init_275 : decode cX10_init 275 = .ok (.putfield 34, 3) := by decide +kernel
theorem dX10_init_278 : decode cX10_init 278 = .ok (.aload_n 0, 1) := by decide +kernel
theorem dX10_init_279 : decode cX10_init 279 = .ok (.bipush 20, 2) := by decide +kernel
theorem dX10_init_281 : decode cX10_init 281 = .ok (.newarray .int, 2) := by decide +kernel
theorem dX10_init_283 : decode cX10_init 283 = .ok (.putfield 37, 3) := by decide +kernel
theorem dX10_init_286 : decode cX10_init 286 = .ok (.aload_n 0, 1) := by decide +kernel
theorem dX10_init_287 : decode cX10_init 287 = .ok (.sipush 1200, 3) := by decide +kernel
theorem dX10_init_290 : decode cX10_init 290 = .ok (.newarray .int, 2) := by decide +kernel
theorem dX10_init_292 : decode cX10_init 292 = .ok (.putfield 40, 3) := by decide +kernel
theorem dX10_init_295 : decode cX10_init 295 = .ok (.aload_n 0, 1) := by decide +kernel
theorem dX10_init_296 : decode cX10_init 296 = .ok (.sipush 1200, 3) := by decide +kernel
theorem dX10_init_299 : decode cX10_init 299 = .ok (.newarray .int, 2) := by decide +kernel
theorem dX10_init_301 : decode cX10_init 301 = .ok (.putfield 43, 3) := by decide +kernel
theorem dX10_init_304 : decode cX10_init 304 = .ok (.aload_n 0, 1) := by decide +kernel
theorem dX10_init_305 : decode cX10_init 305 = .ok (.getfield 7, 3) := by decide +kernel
theorem dX10_init_308 : decode cX10_init 308 = .ok (.iconst 0, 1) := by decide +kernel
theorem dX10_init_309 : decode cX10_init 309 = .ok (.iconst 1, 1) := by decide +kernel
theorem dX10_init_310 : decode cX10_init 310 = .ok (.iastore, 1) := by decide +kernel
theorem dX10_init_311 : decode cX10_init 311 = .ok (.return_, 1) := by decide +kernel
theorem dX10_thrown_0 : decode cX10_thrown 0 = .ok (.aload_n 0, 1) := by decide +kernel
theorem dX10_thrown_1 : decode cX10_thrown 1 = .ok (.getfield 46, 3) := by decide +kernel
theorem dX10_thrown_4 : decode cX10_thrown 4 = .ok (.ireturn, 1) := by decide +kernel
theorem dX10_in_0 : decode cX10_in 0 = .ok (.iload_n 0, 1) := by decide +kernel
theorem dX10_in_1 : decode cX10_in 1 = .ok (.iload_n 1, 1) := by decide +kernel
theorem dX10_in_2 : decode cX10_in 2 = .ok (.if_icmp .lt 12, 3) := by decide +kernel
theorem dX10_in_5 : decode cX10_in 5 = .ok (.iload_n 0, 1) := by decide +kernel
theorem dX10_in_6 : decode cX10_in 6 = .ok (.iload_n 2, 1) := by decide +kernel
theorem dX10_in_7 : decode cX10_in 7 = .ok (.if_icmp .gt 7, 3) := by decide +kernel
theorem dX10_in_10 : decode cX10_in 10 = .ok (.iconst 1, 1) := by decide +kernel
theorem dX10_in_11 : decode cX10_in 11 = .ok (.goto 4, 3) := by decide +kernel
theorem dX10_in_14 : decode cX10_in 14 = .ok (.iconst 0, 1) := by decide +kernel
theorem dX10_in_15 : decode cX10_in 15 = .ok (.ireturn, 1) := by decide +kernel
theorem dX10_fails_0 : decode cX10_fails 0 = .ok (.aload_n 0, 1) := by decide +kernel
theorem dX10_fails_1 : decode cX10_fails 1 = .ok (.iload_n 1, 1) := by decide +kernel
theorem dX10_fails_2 : decode cX10_fails 2 = .ok (.putfield 46, 3) := by decide +kernel
theorem dX10_fails_5 : decode cX10_fails 5 = .ok (.iconst 0, 1) := by decide +kernel
theorem dX10_fails_6 : decode cX10_fails 6 = .ok (.ireturn, 1) := by decide +kernel
theorem dX10_acts_0 : decode cX10_acts 0 = .ok (.aload_n 0, 1) := by decide +kernel
theorem dX10_acts_1 : decode cX10_acts 1 = .ok (.getfield 49, 3) := by decide +kernel
theorem dX10_acts_4 : decode cX10_acts 4 = .ok (.bipush 8, 2) := by decide +kernel
theorem dX10_acts_6 : decode cX10_acts 6 = .ok (.if_icmp .ne 44, 3) := by decide +kernel
theorem dX10_acts_9 : decode cX10_acts 9 = .ok (.iconst 0, 1) := by decide +kernel
theorem dX10_acts_10 : decode cX10_acts 10 = .ok (.istore_n 1, 1) := by decide +kernel
theorem dX10_acts_11 : decode cX10_acts 11 = .ok (.iload_n 1, 1) := by decide +kernel
theorem dX10_acts_12 : decode cX10_acts 12 = .ok (.sipush 4340, 3) := by decide +kernel
theorem dX10_acts_15 : decode cX10_acts 15 = .ok (.if_icmp .ge 25, 3) := by decide +kernel
theorem dX10_acts_18 : decode cX10_acts 18 = .ok (.aload_n 0, 1) := by decide +kernel
theorem dX10_acts_19 : decode cX10_acts 19 = .ok (.getfield 13, 3) := by decide +kernel
theorem dX10_acts_22 : decode cX10_acts 22 = .ok (.iload_n 1, 1) := by decide +kernel
theorem dX10_acts_23 : decode cX10_acts 23 = .ok (.aload_n 0, 1) := by decide +kernel
theorem dX10_acts_24 : decode cX10_acts 24 = .ok (.getfield 13, 3) := by decide +kernel
theorem dX10_acts_27 : decode cX10_acts 27 = .ok (.iload_n 1, 1) := by decide +kernel
theorem dX10_acts_28 : decode cX10_acts 28 = .ok (.sipush 620, 3) := by decide +kernel
theorem dX10_acts_31 : decode cX10_acts 31 = .ok (.iadd, 1) := by decide +kernel
theorem dX10_acts_32 : decode cX10_acts 32 = .ok (.iaload, 1) := by decide +kernel
theorem dX10_acts_33 : decode cX10_acts 33 = .ok (.iastore, 1) := by decide +kernel
theorem dX10_acts_34 : decode cX10_acts 34 = .ok (.iinc 1 1, 3) := by decide +kernel
theorem dX10_acts_37 : decode cX10_acts 37 = .ok (.goto (-26), 3) := by decide +kernel
theorem dX10_acts_40 : decode cX10_acts 40 = .ok (.aload_n 0, 1) := by decide +kernel
theorem dX10_acts_41 : decode cX10_acts 41 = .ok (.dup, 1) := by decide +kernel
theorem dX10_acts_42 : decode cX10_acts 42 = .ok (.getfield 49, 3) := by decide +kernel
theorem dX10_acts_45 : decode cX10_acts 45 = .ok (.iconst 1, 1) := by decide +kernel
theorem dX10_acts_46 : decode cX10_acts 46 = .ok (.isub, 1) := by decide +kernel
theorem dX10_acts_47 : decode cX10_acts 47 = .ok (.putfield 49, 3) := by decide +kernel
theorem dX10_acts_50 : decode cX10_acts 50 = .ok (.iconst 0, 1) := by decide +kernel
theorem dX10_acts_51 : decode cX10_acts 51 = .ok (.istore_n 1, 1) := by decide +kernel
theorem dX10_acts_52 : decode cX10_acts 52 = .ok (.iload_n 1, 1) := by decide +kernel
theorem dX10_acts_53 : decode cX10_acts 53 = .ok (.sipush 620, 3) := by decide +kernel
theorem dX10_acts_56 : decode cX10_acts 56 = .ok (.if_icmp .ge 30, 3) := by decide +kernel
theorem dX10_acts_59 : decode cX10_acts 59 = .ok (.aload_n 0, 1) := by decide +kernel
theorem dX10_acts_60 : decode cX10_acts 60 = .ok (.getfield 13, 3) := by decide +kernel
theorem dX10_acts_63 : decode cX10_acts 63 = .ok (.sipush 620, 3) := by decide +kernel
theorem dX10_acts_66 : decode cX10_acts 66 = .ok (.aload_n 0, 1) := by decide +kernel
theorem dX10_acts_67 : decode cX10_acts 67 = .ok (.getfield 49, 3) := by decide +kernel
theorem dX10_acts_70 : decode cX10_acts 70 = .ok (.imul, 1) := by decide +kernel
theorem dX10_acts_71 : decode cX10_acts 71 = .ok (.iload_n 1, 1) := by decide +kernel
theorem dX10_acts_72 : decode cX10_acts 72 = .ok (.iadd, 1) := by decide +kernel
theorem dX10_acts_73 : decode cX10_acts 73 = .ok (.aload_n 0, 1) := by decide +kernel
theorem dX10_acts_74 : decode cX10_acts 74 = .ok (.getfield 7, 3) := by decide +kernel
theorem dX10_acts_77 : decode cX10_acts 77 = .ok (.iload_n 1, 1) := by decide +kernel
theorem dX10_acts_78 : decode cX10_acts 78 = .ok (.iaload, 1) := by decide +kernel
theorem dX10_acts_79 : decode cX10_acts 79 = .ok (.iastore, 1) := by decide +kernel
theorem dX10_acts_80 : decode cX10_acts 80 = .ok (.iinc 1 1, 3) := by decide +kernel
theorem dX10_acts_83 : decode cX10_acts 83 = .ok (.goto (-31), 3) := by decide +kernel
theorem dX10_acts_86 : decode cX10_acts 86 = .ok (.aload_n 0, 1) := by decide +kernel
theorem dX10_acts_87 : decode cX10_acts 87 = .ok (.dup, 1) := by decide +kernel
theorem dX10_acts_88 : decode cX10_acts 88 = .ok (.getfield 49, 3) := by decide +kernel
theorem dX10_acts_91 : decode cX10_acts 91 = .ok (.iconst 1, 1) := by decide +kernel
theorem dX10_acts_92 : decode cX10_acts 92 = .ok (.iadd, 1) := by decide +kernel
theorem dX10_acts_93 : decode cX10_acts 93 = .ok (.putfield 49, 3) := by decide +kernel
theorem dX10_acts_96 : decode cX10_acts 96 = .ok (.return_, 1) := by decide +kernel
theorem dX10_chord_0 : decode cX10_chord 0 = .ok (.sipush 210, 3) := by decide +kernel
theorem dX10_chord_3 : decode cX10_chord 3 = .ok (.iconst 5, 1) := by decide +kernel
theorem dX10_chord_4 : decode cX10_chord 4 = .ok (.iload_n 0, 1) := by decide +kernel
theorem dX10_chord_5 : decode cX10_chord 5 = .ok (.imul, 1) := by decide +kernel
theorem dX10_chord_6 : decode cX10_chord 6 = .ok (.iadd, 1) := by decide +kernel
theorem dX10_chord_7 : decode cX10_chord 7 = .ok (.ireturn, 1) := by decide +kernel
theorem dX10_mod12_0 : decode cX10_mod12 0 = .ok (.iload_n 0, 1) := by decide +kernel
theorem dX10_mod12_1 : decode cX10_mod12 1 = .ok (.bipush 12, 2) := by decide +kernel
theorem dX10_mod12_3 : decode cX10_mod12 3 = .ok (.irem, 1) := by decide +kernel
theorem dX10_mod12_4 : decode cX10_mod12 4 = .ok (.bipush 12, 2) := by decide +kernel
theorem dX10_mod12_6 : decode cX10_mod12 6 = .ok (.iadd, 1) := by decide +kernel
theorem dX10_mod12_7 : decode cX10_mod12 7 = .ok (.bipush 12, 2) := by decide +kernel
theorem dX10_mod12_9 : decode cX10_mod12 9 = .ok (.irem, 1) := by decide +kernel
theorem dX10_mod12_10 : decode cX10_mod12 10 = .ok (.ireturn, 1) := by decide +kernel
theorem dX10_pitch_0 : decode cX10_pitch 0 = .ok (.bipush 7, 2) := by decide +kernel
theorem dX10_pitch_2 : decode cX10_pitch 2 = .ok (.iload_n 0, 1) := by decide +kernel
theorem dX10_pitch_3 : decode cX10_pitch 3 = .ok (.imul, 1) := by decide +kernel
theorem dX10_pitch_4 : decode cX10_pitch 4 = .ok (.invokestatic 52, 3) := by decide +kernel
theorem dX10_pitch_7 : decode cX10_pitch 7 = .ok (.ireturn, 1) := by decide +kernel
theorem dX10_placeOf_0 : decode cX10_placeOf 0 = .ok (.iconst 0, 1) := by decide +kernel
theorem dX10_placeOf_1 : decode cX10_placeOf 1 = .ok (.istore_n 2, 1) := by decide +kernel
theorem dX10_placeOf_2 : decode cX10_placeOf 2 = .ok (.iload_n 2, 1) := by decide +kernel
theorem dX10_placeOf_3 : decode cX10_placeOf 3 = .ok (.aload_n 0, 1) := by decide +kernel
theorem dX10_placeOf_4 : decode cX10_placeOf 4 = .ok (.getfield 27, 3) := by decide +kernel
theorem dX10_placeOf_7 : decode cX10_placeOf 7 = .ok (.arraylength, 1) := by decide +kernel
theorem dX10_placeOf_8 : decode cX10_placeOf 8 = .ok (.if_icmp .ge 23, 3) := by decide +kernel
theorem dX10_placeOf_11 : decode cX10_placeOf 11 = .ok (.aload_n 0, 1) := by decide +kernel
theorem dX10_placeOf_12 : decode cX10_placeOf 12 = .ok (.getfield 27, 3) := by decide +kernel
theorem dX10_placeOf_15 : decode cX10_placeOf 15 = .ok (.iload_n 2, 1) := by decide +kernel
theorem dX10_placeOf_16 : decode cX10_placeOf 16 = .ok (.caload, 1) := by decide +kernel
theorem dX10_placeOf_17 : decode cX10_placeOf 17 = .ok (.iload_n 1, 1) := by decide +kernel
theorem dX10_placeOf_18 : decode cX10_placeOf 18 = .ok (.if_icmp .ne 7, 3) := by decide +kernel
theorem dX10_placeOf_21 : decode cX10_placeOf 21 = .ok (.iload_n 2, 1) := by decide +kernel
theorem dX10_placeOf_22 : decode cX10_placeOf 22 = .ok (.iconst 1, 1) := by decide +kernel
theorem dX10_placeOf_23 : decode cX10_placeOf 23 = .ok (.isub, 1) := by decide +kernel
theorem dX10_placeOf_24 : decode cX10_placeOf 24 = .ok (.ireturn, 1) := by decide +kernel
theorem dX10_placeOf_25 : decode cX10_placeOf 25 = .ok (.iinc 2 1, 3) := by decide +kernel
theorem dX10_placeOf_28 : decode cX10_placeOf 28 = .ok (.goto (-26), 3) := by decide +kernel
theorem dX10_placeOf_31 : decode cX10_placeOf 31 = .ok (.bipush 100, 2) := by decide +kernel
theorem dX10_placeOf_33 : decode cX10_placeOf 33 = .ok (.ireturn, 1) := by decide +kernel
theorem dX10_sign_0 : decode cX10_sign 0 = .ok (.iload_n 1, 1) := by decide +kernel
theorem dX10_sign_1 : decode cX10_sign 1 = .ok (.aload_n 0, 1) := by decide +kernel
theorem dX10_sign_2 : decode cX10_sign 2 = .ok (.getfield 56, 3) := by decide +kernel
theorem dX10_sign_5 : decode cX10_sign 5 = .ok (.if_icmp .ge 12, 3) := by decide +kernel
theorem dX10_sign_8 : decode cX10_sign 8 = .ok (.aload_n 0, 1) := by decide +kernel
theorem dX10_sign_9 : decode cX10_sign 9 = .ok (.getfield 16, 3) := by decide +kernel
theorem dX10_sign_12 : decode cX10_sign 12 = .ok (.iload_n 1, 1) := by decide +kernel
theorem dX10_sign_13 : decode cX10_sign 13 = .ok (.iaload, 1) := by decide +kernel
theorem dX10_sign_14 : decode cX10_sign 14 = .ok (.goto 4, 3) := by decide +kernel
theorem dX10_sign_17 : decode cX10_sign 17 = .ok (.iconst (-1), 1) := by decide +kernel
theorem dX10_sign_18 : decode cX10_sign 18 = .ok (.ireturn, 1) := by decide +kernel
theorem dX10_readsNote_0 : decode cX10_readsNote 0 = .ok (.aload_n 0, 1) := by decide +kernel
theorem dX10_readsNote_1 : decode cX10_readsNote 1 = .ok (.aload_n 0, 1) := by decide +kernel
theorem dX10_readsNote_2 : decode cX10_readsNote 2 = .ok (.aload_n 0, 1) := by decide +kernel
theorem dX10_readsNote_3 : decode cX10_readsNote 3 = .ok (.aload_n 0, 1) := by decide +kernel
theorem dX10_readsNote_4 : decode cX10_readsNote 4 = .ok (.getfield 59, 3) := by decide +kernel
theorem dX10_readsNote_7 : decode cX10_readsNote 7 = .ok (.invokevirtual 62, 3) := by decide +kernel
theorem dX10_readsNote_10 : decode cX10_readsNote 10 = .ok (.invokevirtual 65, 3) := by decide +kernel
theorem dX10_readsNote_13 : decode cX10_readsNote 13 = .ok (.putfield 68, 3) := by decide +kernel
theorem dX10_readsNote_16 : decode cX10_readsNote 16 = .ok (.aload_n 0, 1) := by decide +kernel
theorem dX10_readsNote_17 : decode cX10_readsNote 17 = .ok (.getfield 68, 3) := by decide +kernel
theorem dX10_readsNote_20 : decode cX10_readsNote 20 = .ok (.bipush 100, 2) := by decide +kernel
theorem dX10_readsNote_22 : decode cX10_readsNote 22 = .ok (.if_icmp .ne 5, 3) := by decide +kernel
theorem dX10_readsNote_25 : decode cX10_readsNote 25 = .ok (.iconst 0, 1) := by decide +kernel
theorem dX10_readsNote_26 : decode cX10_readsNote 26 = .ok (.ireturn, 1) := by decide +kernel
theorem dX10_readsNote_27 : decode cX10_readsNote 27 = .ok (.aload_n 0, 1) := by decide +kernel
theorem dX10_readsNote_28 : decode cX10_readsNote 28 = .ok (.dup, 1) := by decide +kernel
theorem dX10_readsNote_29 : decode cX10_readsNote 29 = .ok (.getfield 59, 3) := by decide +kernel
theorem dX10_readsNote_32 : decode cX10_readsNote 32 = .ok (.iconst 1, 1) := by decide +kernel
theorem dX10_readsNote_33 : decode cX10_readsNote 33 = .ok (.iadd, 1) := by decide +kernel
theorem dX10_readsNote_34 : decode cX10_readsNote 34 = .ok (.putfield 59, 3) := by decide +kernel
theorem dX10_readsNote_37 : decode cX10_readsNote 37 = .ok (.aload_n 0, 1) := by decide +kernel
theorem dX10_readsNote_38 : decode cX10_readsNote 38 = .ok (.aload_n 0, 1) := by decide +kernel
theorem dX10_readsNote_39 : decode cX10_readsNote 39 = .ok (.getfield 59, 3) := by decide +kernel
theorem dX10_readsNote_42 : decode cX10_readsNote 42 = .ok (.invokevirtual 62, 3) := by decide +kernel
theorem dX10_readsNote_45 : decode cX10_readsNote 45 = .ok (.bipush 35, 2) := by decide +kernel
theorem dX10_readsNote_47 : decode cX10_readsNote 47 = .ok (.if_icmp .eq 16, 3) := by decide +kernel
theorem dX10_readsNote_50 : decode cX10_readsNote 50 = .ok (.aload_n 0, 1) := by decide +kernel
theorem dX10_readsNote_51 : decode cX10_readsNote 51 = .ok (.aload_n 0, 1) := by decide +kernel
theorem dX10_readsNote_52 : decode cX10_readsNote 52 = .ok (.getfield 59, 3) := by decide +kernel
theorem dX10_readsNote_55 : decode cX10_readsNote 55 = .ok (.invokevirtual 62, 3) := by decide +kernel
theorem dX10_readsNote_58 : decode cX10_readsNote 58 = .ok (.bipush 98, 2) := by decide +kernel
theorem dX10_readsNote_60 : decode cX10_readsNote 60 = .ok (.if_icmp .ne 42, 3) := by decide +kernel
theorem dX10_readsNote_63 : decode cX10_readsNote 63 = .ok (.aload_n 0, 1) := by decide +kernel
theorem dX10_readsNote_64 : decode cX10_readsNote 64 = .ok (.dup, 1) := by decide +kernel
theorem dX10_readsNote_65 : decode cX10_readsNote 65 = .ok (.getfield 68, 3) := by decide +kernel
theorem dX10_readsNote_68 : decode cX10_readsNote 68 = .ok (.aload_n 0, 1) := by decide +kernel
theorem dX10_readsNote_69 : decode cX10_readsNote 69 = .ok (.aload_n 0, 1) := by decide +kernel
theorem dX10_readsNote_70 : decode cX10_readsNote 70 = .ok (.getfield 59, 3) := by decide +kernel
theorem dX10_readsNote_73 : decode cX10_readsNote 73 = .ok (.invokevirtual 62, 3) := by decide +kernel
theorem dX10_readsNote_76 : decode cX10_readsNote 76 = .ok (.bipush 35, 2) := by decide +kernel
theorem dX10_readsNote_78 : decode cX10_readsNote 78 = .ok (.if_icmp .ne 8, 3) := by decide +kernel
theorem dX10_readsNote_81 : decode cX10_readsNote 81 = .ok (.bipush 7, 2) := by decide +kernel
theorem dX10_readsNote_83 : decode cX10_readsNote 83 = .ok (.goto 5, 3) := by decide +kernel
theorem dX10_readsNote_86 : decode cX10_readsNote 86 = .ok (.bipush (-7), 2) := by decide +kernel
theorem dX10_readsNote_88 : decode cX10_readsNote 88 = .ok (.iadd, 1) := by decide +kernel
theorem dX10_readsNote_89 : decode cX10_readsNote 89 = .ok (.putfield 68, 3) := by decide +kernel
theorem dX10_readsNote_92 : decode cX10_readsNote 92 = .ok (.aload_n 0, 1) := by decide +kernel
theorem dX10_readsNote_93 : decode cX10_readsNote 93 = .ok (.dup, 1) := by decide +kernel
theorem dX10_readsNote_94 : decode cX10_readsNote 94 = .ok (.getfield 59, 3) := by decide +kernel
theorem dX10_readsNote_97 : decode cX10_readsNote 97 = .ok (.iconst 1, 1) := by decide +kernel
theorem dX10_readsNote_98 : decode cX10_readsNote 98 = .ok (.iadd, 1) := by decide +kernel
theorem dX10_readsNote_99 : decode cX10_readsNote 99 = .ok (.putfield 59, 3) := by decide +kernel
theorem dX10_readsNote_102 : decode cX10_readsNote 102 = .ok (.iconst 1, 1) := by decide +kernel
theorem dX10_readsNote_103 : decode cX10_readsNote 103 = .ok (.ireturn, 1) := by decide +kernel
theorem dX10_likeQuality_0 : decode cX10_likeQuality 0 = .ok (.iconst 0, 1) := by decide +kernel
theorem dX10_likeQuality_1 : decode cX10_likeQuality 1 = .ok (.istore_n 2, 1) := by decide +kernel
theorem dX10_likeQuality_2 : decode cX10_likeQuality 2 = .ok (.iconst 0, 1) := by decide +kernel
theorem dX10_likeQuality_3 : decode cX10_likeQuality 3 = .ok (.istore_n 3, 1) := by decide +kernel
theorem dX10_likeQuality_4 : decode cX10_likeQuality 4 = .ok (.iconst 0, 1) := by decide +kernel
theorem dX10_likeQuality_5 : decode cX10_likeQuality 5 = .ok (.istore 4, 2) := by decide +kernel
theorem dX10_likeQuality_7 : decode cX10_likeQuality 7 = .ok (.iload 4, 2) := by decide +kernel
theorem dX10_likeQuality_9 : decode cX10_likeQuality 9 = .ok (.aload_n 0, 1) := by decide +kernel
theorem dX10_likeQuality_10 : decode cX10_likeQuality 10 = .ok (.getfield 31, 3) := by decide +kernel
theorem dX10_likeQuality_13 : decode cX10_likeQuality 13 = .ok (.arraylength, 1) := by decide +kernel
theorem dX10_likeQuality_14 : decode cX10_likeQuality 14 = .ok (.if_icmp .ge 39, 3) := by decide +kernel
theorem dX10_likeQuality_17 : decode cX10_likeQuality 17 = .ok (.iload_n 2, 1) := by decide +kernel
theorem dX10_likeQuality_18 : decode cX10_likeQuality 18 = .ok (.iload_n 1, 1) := by decide +kernel
theorem dX10_likeQuality_19 : decode cX10_likeQuality 19 = .ok (.if_icmp .ge 34, 3) := by decide +kernel
theorem dX10_likeQuality_22 : decode cX10_likeQuality 22 = .ok (.iload_n 2, 1) := by decide +kernel
theorem dX10_likeQuality_23 : decode cX10_likeQuality 23 = .ok (.aload_n 0, 1) := by decide +kernel
theorem dX10_likeQuality_24 : decode cX10_likeQuality 24 = .ok (.getfield 31, 3) := by decide +kernel
theorem dX10_likeQuality_27 : decode cX10_likeQuality 27 = .ok (.iload 4, 2) := by decide +kernel
theorem dX10_likeQuality_29 : decode cX10_likeQuality 29 = .ok (.caload, 1) := by decide +kernel
theorem dX10_likeQuality_30 : decode cX10_likeQuality 30 = .ok (.bipush 59, 2) := by decide +kernel
theorem dX10_likeQuality_32 : decode cX10_likeQuality 32 = .ok (.if_icmp .ne 7, 3) := by decide +kernel
theorem dX10_likeQuality_35 : decode cX10_likeQuality 35 = .ok (.iconst 1, 1) := by decide +kernel
theorem dX10_likeQuality_36 : decode cX10_likeQuality 36 = .ok (.goto 4, 3) := by decide +kernel
theorem dX10_likeQuality_39 : decode cX10_likeQuality 39 = .ok (.iconst 0, 1) := by decide +kernel
theorem dX10_likeQuality_40 : decode cX10_likeQuality 40 = .ok (.iadd, 1) := by decide +kernel
theorem dX10_likeQuality_41 : decode cX10_likeQuality 41 = .ok (.istore_n 2, 1) := by decide +kernel
theorem dX10_likeQuality_42 : decode cX10_likeQuality 42 = .ok (.iload 4, 2) := by decide +kernel
theorem dX10_likeQuality_44 : decode cX10_likeQuality 44 = .ok (.iconst 1, 1) := by decide +kernel
theorem dX10_likeQuality_45 : decode cX10_likeQuality 45 = .ok (.iadd, 1) := by decide +kernel
theorem dX10_likeQuality_46 : decode cX10_likeQuality 46 = .ok (.istore_n 3, 1) := by decide +kernel
theorem dX10_likeQuality_47 : decode cX10_likeQuality 47 = .ok (.iinc 4 1, 3) := by decide +kernel
theorem dX10_likeQuality_50 : decode cX10_likeQuality 50 = .ok (.goto (-43), 3) := by decide +kernel
theorem dX10_likeQuality_53 : decode cX10_likeQuality 53 = .ok (.iconst 0, 1) := by decide +kernel
theorem dX10_likeQuality_54 : decode cX10_likeQuality 54 = .ok (.istore 4, 2) := by decide +kernel
theorem dX10_likeQuality_56 : decode cX10_likeQuality 56 = .ok (.aload_n 0, 1) := by decide +kernel
theorem dX10_likeQuality_57 : decode cX10_likeQuality 57 = .ok (.getfield 31, 3) := by decide +kernel
theorem dX10_likeQuality_60 : decode cX10_likeQuality 60 = .ok (.iload_n 3, 1) := by decide +kernel
theorem dX10_likeQuality_61 : decode cX10_likeQuality 61 = .ok (.iload 4, 2) := by decide +kernel
theorem dX10_likeQuality_63 : decode cX10_likeQuality 63 = .ok (.iadd, 1) := by decide +kernel
theorem dX10_likeQuality_64 : decode cX10_likeQuality 64 = .ok (.caload, 1) := by decide +kernel
theorem dX10_likeQuality_65 : decode cX10_likeQuality 65 = .ok (.bipush 59, 2) := by decide +kernel
theorem dX10_likeQuality_67 : decode cX10_likeQuality 67 = .ok (.if_icmp .eq 32, 3) := by decide +kernel
theorem dX10_likeQuality_70 : decode cX10_likeQuality 70 = .ok (.aload_n 0, 1) := by decide +kernel
theorem dX10_likeQuality_71 : decode cX10_likeQuality 71 = .ok (.aload_n 0, 1) := by decide +kernel
theorem dX10_likeQuality_72 : decode cX10_likeQuality 72 = .ok (.getfield 59, 3) := by decide +kernel
theorem dX10_likeQuality_75 : decode cX10_likeQuality 75 = .ok (.iload 4, 2) := by decide +kernel
theorem dX10_likeQuality_77 : decode cX10_likeQuality 77 = .ok (.iadd, 1) := by decide +kernel
theorem dX10_likeQuality_78 : decode cX10_likeQuality 78 = .ok (.invokevirtual 62, 3) := by decide +kernel
theorem dX10_likeQuality_81 : decode cX10_likeQuality 81 = .ok (.aload_n 0, 1) := by decide +kernel
theorem dX10_likeQuality_82 : decode cX10_likeQuality 82 = .ok (.getfield 31, 3) := by decide +kernel
theorem dX10_likeQuality_85 : decode cX10_likeQuality 85 = .ok (.iload_n 3, 1) := by decide +kernel
theorem dX10_likeQuality_86 : decode cX10_likeQuality 86 = .ok (.iload 4, 2) := by decide +kernel
theorem dX10_likeQuality_88 : decode cX10_likeQuality 88 = .ok (.iadd, 1) := by decide +kernel
theorem dX10_likeQuality_89 : decode cX10_likeQuality 89 = .ok (.caload, 1) := by decide +kernel
theorem dX10_likeQuality_90 : decode cX10_likeQuality 90 = .ok (.if_icmp .ne 9, 3) := by decide +kernel
theorem dX10_likeQuality_93 : decode cX10_likeQuality 93 = .ok (.iinc 4 1, 3) := by decide +kernel
theorem dX10_likeQuality_96 : decode cX10_likeQuality 96 = .ok (.goto (-40), 3) := by decide +kernel
theorem dX10_likeQuality_99 : decode cX10_likeQuality 99 = .ok (.aload_n 0, 1) := by decide +kernel
theorem dX10_likeQuality_100 : decode cX10_likeQuality 100 = .ok (.aload_n 0, 1) := by decide +kernel
theorem dX10_likeQuality_101 : decode cX10_likeQuality 101 = .ok (.getfield 31, 3) := by decide +kernel
theorem dX10_likeQuality_104 : decode cX10_likeQuality 104 = .ok (.iload_n 3, 1) := by decide +kernel
theorem dX10_likeQuality_105 : decode cX10_likeQuality 105 = .ok (.iload 4, 2) := by decide +kernel
theorem dX10_likeQuality_107 : decode cX10_likeQuality 107 = .ok (.iadd, 1) := by decide +kernel
theorem dX10_likeQuality_108 : decode cX10_likeQuality 108 = .ok (.caload, 1) := by decide +kernel
theorem dX10_likeQuality_109 : decode cX10_likeQuality 109 = .ok (.bipush 59, 2) := by decide +kernel
theorem dX10_likeQuality_111 : decode cX10_likeQuality 111 = .ok (.if_icmp .ne 7, 3) := by decide +kernel
theorem dX10_likeQuality_114 : decode cX10_likeQuality 114 = .ok (.iconst 1, 1) := by decide +kernel
theorem dX10_likeQuality_115 : decode cX10_likeQuality 115 = .ok (.goto 4, 3) := by decide +kernel
theorem dX10_likeQuality_118 : decode cX10_likeQuality 118 = .ok (.iconst 0, 1) := by decide +kernel
theorem dX10_likeQuality_119 : decode cX10_likeQuality 119 = .ok (.putfield 71, 3) := by decide +kernel
theorem dX10_likeQuality_122 : decode cX10_likeQuality 122 = .ok (.iload 4, 2) := by decide +kernel
theorem dX10_likeQuality_124 : decode cX10_likeQuality 124 = .ok (.ireturn, 1) := by decide +kernel
theorem dX10_readsChord_0 : decode cX10_readsChord 0 = .ok (.aload_n 0, 1) := by decide +kernel
theorem dX10_readsChord_1 : decode cX10_readsChord 1 = .ok (.invokevirtual 74, 3) := by decide +kernel
theorem dX10_readsChord_4 : decode cX10_readsChord 4 = .ok (.ifCond .ne 5, 3) := by decide +kernel
theorem dX10_readsChord_7 : decode cX10_readsChord 7 = .ok (.iconst 0, 1) := by decide +kernel
theorem dX10_readsChord_8 : decode cX10_readsChord 8 = .ok (.ireturn, 1) := by decide +kernel
theorem dX10_readsChord_9 : decode cX10_readsChord 9 = .ok (.aload_n 0, 1) := by decide +kernel
theorem dX10_readsChord_10 : decode cX10_readsChord 10 = .ok (.aload_n 0, 1) := by decide +kernel
theorem dX10_readsChord_11 : decode cX10_readsChord 11 = .ok (.getfield 68, 3) := by decide +kernel
theorem dX10_readsChord_14 : decode cX10_readsChord 14 = .ok (.putfield 78, 3) := by decide +kernel
theorem dX10_readsChord_17 : decode cX10_readsChord 17 = .ok (.aload_n 0, 1) := by decide +kernel
theorem dX10_readsChord_18 : decode cX10_readsChord 18 = .ok (.bipush 100, 2) := by decide +kernel
theorem dX10_readsChord_20 : decode cX10_readsChord 20 = .ok (.putfield 81, 3) := by decide +kernel
theorem dX10_readsChord_23 : decode cX10_readsChord 23 = .ok (.iconst 0, 1) := by decide +kernel
theorem dX10_readsChord_24 : decode cX10_readsChord 24 = .ok (.istore_n 2, 1) := by decide +kernel
theorem dX10_readsChord_25 : decode cX10_readsChord 25 = .ok (.iconst 0, 1) := by decide +kernel
theorem dX10_readsChord_26 : decode cX10_readsChord 26 = .ok (.istore_n 3, 1) := by decide +kernel
theorem dX10_readsChord_27 : decode cX10_readsChord 27 = .ok (.iconst 0, 1) := by decide +kernel
theorem dX10_readsChord_28 : decode cX10_readsChord 28 = .ok (.istore 4, 2) := by decide +kernel
theorem dX10_readsChord_30 : decode cX10_readsChord 30 = .ok (.iconst 0, 1) := by decide +kernel
theorem dX10_readsChord_31 : decode cX10_readsChord 31 = .ok (.istore 5, 2) := by decide +kernel
theorem dX10_readsChord_33 : decode cX10_readsChord 33 = .ok (.iload 5, 2) := by decide +kernel
theorem dX10_readsChord_35 : decode cX10_readsChord 35 = .ok (.bipush 10, 2) := by decide +kernel
theorem dX10_readsChord_37 : decode cX10_readsChord 37 = .ok (.if_icmp .ge 48, 3) := by decide +kernel
theorem dX10_readsChord_40 : decode cX10_readsChord 40 = .ok (.aload_n 0, 1) := by decide +kernel
theorem dX10_readsChord_41 : decode cX10_readsChord 41 = .ok (.iload 5, 2) := by decide +kernel
theorem dX10_readsChord_43 : decode cX10_readsChord 43 = .ok (.invokevirtual 84, 3) := by decide +kernel
theorem dX10_readsChord_46 : decode cX10_readsChord 46 = .ok (.istore 6, 2) := by decide +kernel
theorem dX10_readsChord_48 : decode cX10_readsChord 48 = .ok (.iload 6, 2) := by decide +kernel
theorem dX10_readsChord_50 : decode cX10_readsChord 50 = .ok (.iload_n 2, 1) := by decide +kernel
theorem dX10_readsChord_51 : decode cX10_readsChord 51 = .ok (.if_icmp .gt 16, 3) := by decide +kernel
theorem dX10_readsChord_54 : decode cX10_readsChord 54 = .ok (.iload 6, 2) := by decide +kernel
theorem dX10_readsChord_56 : decode cX10_readsChord 56 = .ok (.iload_n 2, 1) := by decide +kernel
theorem dX10_readsChord_57 : decode cX10_readsChord 57 = .ok (.if_icmp .ne 22, 3) := by decide +kernel
theorem dX10_readsChord_60 : decode cX10_readsChord 60 = .ok (.aload_n 0, 1) := by decide +kernel
theorem dX10_readsChord_61 : decode cX10_readsChord 61 = .ok (.getfield 71, 3) := by decide +kernel
theorem dX10_readsChord_64 : decode cX10_readsChord 64 = .ok (.ifCond .eq 15, 3) := by decide +kernel
theorem dX10_readsChord_67 : decode cX10_readsChord 67 = .ok (.aload_n 0, 1) := by decide +kernel
theorem dX10_readsChord_68 : decode cX10_readsChord 68 = .ok (.getfield 71, 3) := by decide +kernel
theorem dX10_readsChord_71 : decode cX10_readsChord 71 = .ok (.istore 4, 2) := by decide +kernel
theorem dX10_readsChord_73 : decode cX10_readsChord 73 = .ok (.iload 5, 2) := by decide +kernel
theorem dX10_readsChord_75 : decode cX10_readsChord 75 = .ok (.istore_n 3, 1) := by decide +kernel
theorem dX10_readsChord_76 : decode cX10_readsChord 76 = .ok (.iload 6, 2) := by decide +kernel
theorem dX10_readsChord_78 : decode cX10_readsChord 78 = .ok (.istore_n 2, 1) := by decide +kernel
theorem dX10_readsChord_79 : decode cX10_readsChord 79 = .ok (.iinc 5 1, 3) := by decide +kernel
theorem dX10_readsChord_82 : decode cX10_readsChord 82 = .ok (.goto (-49), 3) := by decide +kernel
theorem dX10_readsChord_85 : decode cX10_readsChord 85 = .ok (.aload_n 0, 1) := by decide +kernel
theorem dX10_readsChord_86 : decode cX10_readsChord 86 = .ok (.dup, 1) := by decide +kernel
theorem dX10_readsChord_87 : decode cX10_readsChord 87 = .ok (.getfield 59, 3) := by decide +kernel
theorem dX10_readsChord_90 : decode cX10_readsChord 90 = .ok (.iload_n 2, 1) := by decide +kernel
theorem dX10_readsChord_91 : decode cX10_readsChord 91 = .ok (.iadd, 1) := by decide +kernel
theorem dX10_readsChord_92 : decode cX10_readsChord 92 = .ok (.putfield 59, 3) := by decide +kernel
theorem dX10_readsChord_95 : decode cX10_readsChord 95 = .ok (.aload_n 0, 1) := by decide +kernel
theorem dX10_readsChord_96 : decode cX10_readsChord 96 = .ok (.iload_n 3, 1) := by decide +kernel
theorem dX10_readsChord_97 : decode cX10_readsChord 97 = .ok (.putfield 87, 3) := by decide +kernel
theorem dX10_readsChord_100 : decode cX10_readsChord 100 = .ok (.iload 4, 2) := by decide +kernel
theorem dX10_readsChord_102 : decode cX10_readsChord 102 = .ok (.ifCond .ne 5, 3) := by decide +kernel
theorem dX10_readsChord_105 : decode cX10_readsChord 105 = .ok (.iconst 0, 1) := by decide +kernel
theorem dX10_readsChord_106 : decode cX10_readsChord 106 = .ok (.ireturn, 1) := by decide +kernel
theorem dX10_readsChord_107 : decode cX10_readsChord 107 = .ok (.aload_n 0, 1) := by decide +kernel
theorem dX10_readsChord_108 : decode cX10_readsChord 108 = .ok (.aload_n 0, 1) := by decide +kernel
theorem dX10_readsChord_109 : decode cX10_readsChord 109 = .ok (.getfield 59, 3) := by decide +kernel
theorem dX10_readsChord_112 : decode cX10_readsChord 112 = .ok (.invokevirtual 62, 3) := by decide +kernel
theorem dX10_readsChord_115 : decode cX10_readsChord 115 = .ok (.bipush 47, 2) := by decide +kernel
theorem dX10_readsChord_117 : decode cX10_readsChord 117 = .ok (.if_icmp .ne 30, 3) := by decide +kernel
theorem dX10_readsChord_120 : decode cX10_readsChord 120 = .ok (.aload_n 0, 1) := by decide +kernel
theorem dX10_readsChord_121 : decode cX10_readsChord 121 = .ok (.dup, 1) := by decide +kernel
theorem dX10_readsChord_122 : decode cX10_readsChord 122 = .ok (.getfield 59, 3) := by decide +kernel
theorem dX10_readsChord_125 : decode cX10_readsChord 125 = .ok (.iconst 1, 1) := by decide +kernel
theorem dX10_readsChord_126 : decode cX10_readsChord 126 = .ok (.iadd, 1) := by decide +kernel
theorem dX10_readsChord_127 : decode cX10_readsChord 127 = .ok (.putfield 59, 3) := by decide +kernel
theorem dX10_readsChord_130 : decode cX10_readsChord 130 = .ok (.aload_n 0, 1) := by decide +kernel
theorem dX10_readsChord_131 : decode cX10_readsChord 131 = .ok (.invokevirtual 74, 3) := by decide +kernel
theorem dX10_readsChord_134 : decode cX10_readsChord 134 = .ok (.ifCond .ne 5, 3) := by decide +kernel
theorem dX10_readsChord_137 : decode cX10_readsChord 137 = .ok (.iconst 0, 1) := by decide +kernel
theorem dX10_readsChord_138 : decode cX10_readsChord 138 = .ok (.ireturn, 1) := by decide +kernel
theorem dX10_readsChord_139 : decode cX10_readsChord 139 = .ok (.aload_n 0, 1) := by decide +kernel
theorem dX10_readsChord_140 : decode cX10_readsChord 140 = .ok (.aload_n 0, 1) := by decide +kernel
theorem dX10_readsChord_141 : decode cX10_readsChord 141 = .ok (.getfield 68, 3) := by decide +kernel
theorem dX10_readsChord_144 : decode cX10_readsChord 144 = .ok (.putfield 81, 3) := by decide +kernel
theorem dX10_readsChord_147 : decode cX10_readsChord 147 = .ok (.aload_n 0, 1) := by decide +kernel
theorem dX10_readsChord_148 : decode cX10_readsChord 148 = .ok (.aload_n 0, 1) := by decide +kernel
theorem dX10_readsChord_149 : decode cX10_readsChord 149 = .ok (.getfield 59, 3) := by decide +kernel
theorem dX10_readsChord_152 : decode cX10_readsChord 152 = .ok (.invokevirtual 62, 3) := by decide +kernel
theorem dX10_readsChord_155 : decode cX10_readsChord 155 = .ok (.iload_n 1, 1) := by decide +kernel
theorem dX10_readsChord_156 : decode cX10_readsChord 156 = .ok (.if_icmp .ne 7, 3) := by decide +kernel
theorem dX10_readsChord_159 : decode cX10_readsChord 159 = .ok (.iconst 1, 1) := by decide +kernel
theorem dX10_readsChord_160 : decode cX10_readsChord 160 = .ok (.goto 4, 3) := by decide +kernel
theorem dX10_readsChord_163 : decode cX10_readsChord 163 = .ok (.iconst 0, 1) := by decide +kernel
theorem dX10_readsChord_164 : decode cX10_readsChord 164 = .ok (.ireturn, 1) := by decide +kernel
theorem dX10_readsSheet_0 : decode cX10_readsSheet 0 = .ok (.iconst 0, 1) := by decide +kernel
theorem dX10_readsSheet_1 : decode cX10_readsSheet 1 = .ok (.istore_n 1, 1) := by decide +kernel
theorem dX10_readsSheet_2 : decode cX10_readsSheet 2 = .ok (.iload_n 1, 1) := by decide +kernel
theorem dX10_readsSheet_3 : decode cX10_readsSheet 3 = .ok (.sipush 620, 3) := by decide +kernel
theorem dX10_readsSheet_6 : decode cX10_readsSheet 6 = .ok (.if_icmp .ge 16, 3) := by decide +kernel
theorem dX10_readsSheet_9 : decode cX10_readsSheet 9 = .ok (.aload_n 0, 1) := by decide +kernel
theorem dX10_readsSheet_10 : decode cX10_readsSheet 10 = .ok (.getfield 34, 3) := by decide +kernel
theorem dX10_readsSheet_13 : decode cX10_readsSheet 13 = .ok (.iload_n 1, 1) := by decide +kernel
theorem dX10_readsSheet_14 : decode cX10_readsSheet 14 = .ok (.iconst 0, 1) := by decide +kernel
theorem dX10_readsSheet_15 : decode cX10_readsSheet 15 = .ok (.iastore, 1) := by decide +kernel
theorem dX10_readsSheet_16 : decode cX10_readsSheet 16 = .ok (.iinc 1 1, 3) := by decide +kernel
theorem dX10_readsSheet_19 : decode cX10_readsSheet 19 = .ok (.goto (-17), 3) := by decide +kernel
theorem dX10_readsSheet_22 : decode cX10_readsSheet 22 = .ok (.aload_n 0, 1) := by decide +kernel
theorem dX10_readsSheet_23 : decode cX10_readsSheet 23 = .ok (.getfield 34, 3) := by decide +kernel
theorem dX10_readsSheet_26 : decode cX10_readsSheet 26 = .ok (.iconst 0, 1) := by decide +kernel
theorem dX10_readsSheet_27 : decode cX10_readsSheet 27 = .ok (.iconst 1, 1) := by decide +kernel
theorem dX10_readsSheet_28 : decode cX10_readsSheet 28 = .ok (.iastore, 1) := by decide +kernel
theorem dX10_readsSheet_29 : decode cX10_readsSheet 29 = .ok (.iconst 0, 1) := by decide +kernel
theorem dX10_readsSheet_30 : decode cX10_readsSheet 30 = .ok (.istore_n 1, 1) := by decide +kernel
theorem dX10_readsSheet_31 : decode cX10_readsSheet 31 = .ok (.aload_n 0, 1) := by decide +kernel
theorem dX10_readsSheet_32 : decode cX10_readsSheet 32 = .ok (.iconst 0, 1) := by decide +kernel
theorem dX10_readsSheet_33 : decode cX10_readsSheet 33 = .ok (.putfield 59, 3) := by decide +kernel
theorem dX10_readsSheet_36 : decode cX10_readsSheet 36 = .ok (.aload_n 0, 1) := by decide +kernel
theorem dX10_readsSheet_37 : decode cX10_readsSheet 37 = .ok (.getfield 59, 3) := by decide +kernel
theorem dX10_readsSheet_40 : decode cX10_readsSheet 40 = .ok (.aload_n 0, 1) := by decide +kernel
theorem dX10_readsSheet_41 : decode cX10_readsSheet 41 = .ok (.getfield 56, 3) := by decide +kernel
theorem dX10_readsSheet_44 : decode cX10_readsSheet 44 = .ok (.if_icmp .ge 250, 3) := by decide +kernel
theorem dX10_readsSheet_47 : decode cX10_readsSheet 47 = .ok (.aload_n 0, 1) := by decide +kernel
theorem dX10_readsSheet_48 : decode cX10_readsSheet 48 = .ok (.aload_n 0, 1) := by decide +kernel
theorem dX10_readsSheet_49 : decode cX10_readsSheet 49 = .ok (.getfield 59, 3) := by decide +kernel
theorem dX10_readsSheet_52 : decode cX10_readsSheet 52 = .ok (.invokevirtual 62, 3) := by decide +kernel
theorem dX10_readsSheet_55 : decode cX10_readsSheet 55 = .ok (.bipush 93, 2) := by decide +kernel
theorem dX10_readsSheet_57 : decode cX10_readsSheet 57 = .ok (.if_icmp .eq 27, 3) := by decide +kernel
theorem dX10_readsSheet_60 : decode cX10_readsSheet 60 = .ok (.aload_n 0, 1) := by decide +kernel
theorem dX10_readsSheet_61 : decode cX10_readsSheet 61 = .ok (.aload_n 0, 1) := by decide +kernel
theorem dX10_readsSheet_62 : decode cX10_readsSheet 62 = .ok (.getfield 59, 3) := by decide +kernel
theorem dX10_readsSheet_65 : decode cX10_readsSheet 65 = .ok (.invokevirtual 62, 3) := by decide +kernel
theorem dX10_readsSheet_68 : decode cX10_readsSheet 68 = .ok (.bipush 91, 2) := by decide +kernel
theorem dX10_readsSheet_70 : decode cX10_readsSheet 70 = .ok (.if_icmp .ne 16, 3) := by decide +kernel
theorem dX10_readsSheet_73 : decode cX10_readsSheet 73 = .ok (.aload_n 0, 1) := by decide +kernel
theorem dX10_readsSheet_74 : decode cX10_readsSheet 74 = .ok (.getfield 34, 3) := by decide +kernel
theorem dX10_readsSheet_77 : decode cX10_readsSheet 77 = .ok (.iconst 1, 1) := by decide +kernel
theorem dX10_readsSheet_78 : decode cX10_readsSheet 78 = .ok (.iaload, 1) := by decide +kernel
theorem dX10_readsSheet_79 : decode cX10_readsSheet 79 = .ok (.bipush 40, 2) := by decide +kernel
theorem dX10_readsSheet_81 : decode cX10_readsSheet 81 = .ok (.if_icmp .ne 5, 3) := by decide +kernel
theorem dX10_readsSheet_84 : decode cX10_readsSheet 84 = .ok (.iconst 0, 1) := by decide +kernel
theorem dX10_readsSheet_85 : decode cX10_readsSheet 85 = .ok (.ireturn, 1) := by decide +kernel
theorem dX10_readsSheet_86 : decode cX10_readsSheet 86 = .ok (.aload_n 0, 1) := by decide +kernel
theorem dX10_readsSheet_87 : decode cX10_readsSheet 87 = .ok (.aload_n 0, 1) := by decide +kernel
theorem dX10_readsSheet_88 : decode cX10_readsSheet 88 = .ok (.getfield 59, 3) := by decide +kernel
theorem dX10_readsSheet_91 : decode cX10_readsSheet 91 = .ok (.invokevirtual 62, 3) := by decide +kernel
theorem dX10_readsSheet_94 : decode cX10_readsSheet 94 = .ok (.bipush 91, 2) := by decide +kernel
theorem dX10_readsSheet_96 : decode cX10_readsSheet 96 = .ok (.if_icmp .ne 124, 3) := by decide +kernel
theorem dX10_readsSheet_99 : decode cX10_readsSheet 99 = .ok (.aload_n 0, 1) := by decide +kernel
theorem dX10_readsSheet_100 : decode cX10_readsSheet 100 = .ok (.dup, 1) := by decide +kernel
theorem dX10_readsSheet_101 : decode cX10_readsSheet 101 = .ok (.getfield 59, 3) := by decide +kernel
theorem dX10_readsSheet_104 : decode cX10_readsSheet 104 = .ok (.iconst 1, 1) := by decide +kernel
theorem dX10_readsSheet_105 : decode cX10_readsSheet 105 = .ok (.iadd, 1) := by decide +kernel
theorem dX10_readsSheet_106 : decode cX10_readsSheet 106 = .ok (.putfield 59, 3) := by decide +kernel
theorem dX10_readsSheet_109 : decode cX10_readsSheet 109 = .ok (.aload_n 0, 1) := by decide +kernel
theorem dX10_readsSheet_110 : decode cX10_readsSheet 110 = .ok (.bipush 93, 2) := by decide +kernel
theorem dX10_readsSheet_112 : decode cX10_readsSheet 112 = .ok (.invokevirtual 90, 3) := by decide +kernel
theorem dX10_readsSheet_115 : decode cX10_readsSheet 115 = .ok (.ifCond .ne 5, 3) := by decide +kernel
theorem dX10_readsSheet_118 : decode cX10_readsSheet 118 = .ok (.iconst 0, 1) := by decide +kernel
theorem dX10_readsSheet_119 : decode cX10_readsSheet 119 = .ok (.ireturn, 1) := by decide +kernel
theorem dX10_readsSheet_120 : decode cX10_readsSheet 120 = .ok (.aload_n 0, 1) := by decide +kernel
theorem dX10_readsSheet_121 : decode cX10_readsSheet 121 = .ok (.getfield 34, 3) := by decide +kernel
theorem dX10_readsSheet_124 : decode cX10_readsSheet 124 = .ok (.iconst 1, 1) := by decide +kernel
theorem dX10_readsSheet_125 : decode cX10_readsSheet 125 = .ok (.iaload, 1) := by decide +kernel
theorem dX10_readsSheet_126 : decode cX10_readsSheet 126 = .ok (.invokestatic 94, 3) := by decide +kernel
theorem dX10_readsSheet_129 : decode cX10_readsSheet 129 = .ok (.istore_n 2, 1) := by decide +kernel
theorem dX10_readsSheet_130 : decode cX10_readsSheet 130 = .ok (.aload_n 0, 1) := by decide +kernel
theorem dX10_readsSheet_131 : decode cX10_readsSheet 131 = .ok (.getfield 34, 3) := by decide +kernel
theorem dX10_readsSheet_134 : decode cX10_readsSheet 134 = .ok (.iload_n 2, 1) := by decide +kernel
theorem dX10_readsSheet_135 : decode cX10_readsSheet 135 = .ok (.iconst 0, 1) := by decide +kernel
theorem dX10_readsSheet_136 : decode cX10_readsSheet 136 = .ok (.iadd, 1) := by decide +kernel
theorem dX10_readsSheet_137 : decode cX10_readsSheet 137 = .ok (.aload_n 0, 1) := by decide +kernel
theorem dX10_readsSheet_138 : decode cX10_readsSheet 138 = .ok (.getfield 34, 3) := by decide +kernel
theorem dX10_readsSheet_141 : decode cX10_readsSheet 141 = .ok (.iconst 0, 1) := by decide +kernel
theorem dX10_readsSheet_142 : decode cX10_readsSheet 142 = .ok (.iaload, 1) := by decide +kernel
theorem dX10_readsSheet_143 : decode cX10_readsSheet 143 = .ok (.iconst 1, 1) := by decide +kernel
theorem dX10_readsSheet_144 : decode cX10_readsSheet 144 = .ok (.isub, 1) := by decide +kernel
theorem dX10_readsSheet_145 : decode cX10_readsSheet 145 = .ok (.iastore, 1) := by decide +kernel
theorem dX10_readsSheet_146 : decode cX10_readsSheet 146 = .ok (.aload_n 0, 1) := by decide +kernel
theorem dX10_readsSheet_147 : decode cX10_readsSheet 147 = .ok (.getfield 34, 3) := by decide +kernel
theorem dX10_readsSheet_150 : decode cX10_readsSheet 150 = .ok (.iload_n 2, 1) := by decide +kernel
theorem dX10_readsSheet_151 : decode cX10_readsSheet 151 = .ok (.iconst 1, 1) := by decide +kernel
theorem dX10_readsSheet_152 : decode cX10_readsSheet 152 = .ok (.iadd, 1) := by decide +kernel
theorem dX10_readsSheet_153 : decode cX10_readsSheet 153 = .ok (.iload_n 1, 1) := by decide +kernel
theorem dX10_readsSheet_154 : decode cX10_readsSheet 154 = .ok (.aload_n 0, 1) := by decide +kernel
theorem dX10_readsSheet_155 : decode cX10_readsSheet 155 = .ok (.getfield 34, 3) := by decide +kernel
theorem dX10_readsSheet_158 : decode cX10_readsSheet 158 = .ok (.iconst 4, 1) := by decide +kernel
theorem dX10_readsSheet_159 : decode cX10_readsSheet 159 = .ok (.aload_n 0, 1) := by decide +kernel
theorem dX10_readsSheet_160 : decode cX10_readsSheet 160 = .ok (.getfield 34, 3) := by decide +kernel
theorem dX10_readsSheet_163 : decode cX10_readsSheet 163 = .ok (.iconst 0, 1) := by decide +kernel
theorem dX10_readsSheet_164 : decode cX10_readsSheet 164 = .ok (.iaload, 1) := by decide +kernel
theorem dX10_readsSheet_165 : decode cX10_readsSheet 165 = .ok (.iadd, 1) := by decide +kernel
theorem dX10_readsSheet_166 : decode cX10_readsSheet 166 = .ok (.iconst 1, 1) := by decide +kernel
theorem dX10_readsSheet_167 : decode cX10_readsSheet 167 = .ok (.isub, 1) := by decide +kernel
theorem dX10_readsSheet_168 : decode cX10_readsSheet 168 = .ok (.iaload, 1) := by decide +kernel
theorem dX10_readsSheet_169 : decode cX10_readsSheet 169 = .ok (.isub, 1) := by decide +kernel
theorem dX10_readsSheet_170 : decode cX10_readsSheet 170 = .ok (.iastore, 1) := by decide +kernel
theorem dX10_readsSheet_171 : decode cX10_readsSheet 171 = .ok (.aload_n 0, 1) := by decide +kernel
theorem dX10_readsSheet_172 : decode cX10_readsSheet 172 = .ok (.getfield 34, 3) := by decide +kernel
theorem dX10_readsSheet_175 : decode cX10_readsSheet 175 = .ok (.iload_n 2, 1) := by decide +kernel
theorem dX10_readsSheet_176 : decode cX10_readsSheet 176 = .ok (.iconst 2, 1) := by decide +kernel
theorem dX10_readsSheet_177 : decode cX10_readsSheet 177 = .ok (.iadd, 1) := by decide +kernel
theorem dX10_readsSheet_178 : decode cX10_readsSheet 178 = .ok (.aload_n 0, 1) := by decide +kernel
theorem dX10_readsSheet_179 : decode cX10_readsSheet 179 = .ok (.getfield 78, 3) := by decide +kernel
theorem dX10_readsSheet_182 : decode cX10_readsSheet 182 = .ok (.iastore, 1) := by decide +kernel
theorem dX10_readsSheet_183 : decode cX10_readsSheet 183 = .ok (.aload_n 0, 1) := by decide +kernel
theorem dX10_readsSheet_184 : decode cX10_readsSheet 184 = .ok (.getfield 34, 3) := by decide +kernel
theorem dX10_readsSheet_187 : decode cX10_readsSheet 187 = .ok (.iload_n 2, 1) := by decide +kernel
theorem dX10_readsSheet_188 : decode cX10_readsSheet 188 = .ok (.iconst 3, 1) := by decide +kernel
theorem dX10_readsSheet_189 : decode cX10_readsSheet 189 = .ok (.iadd, 1) := by decide +kernel
theorem dX10_readsSheet_190 : decode cX10_readsSheet 190 = .ok (.aload_n 0, 1) := by decide +kernel
theorem dX10_readsSheet_191 : decode cX10_readsSheet 191 = .ok (.getfield 87, 3) := by decide +kernel
theorem dX10_readsSheet_194 : decode cX10_readsSheet 194 = .ok (.iastore, 1) := by decide +kernel
theorem dX10_readsSheet_195 : decode cX10_readsSheet 195 = .ok (.aload_n 0, 1) := by decide +kernel
theorem dX10_readsSheet_196 : decode cX10_readsSheet 196 = .ok (.getfield 34, 3) := by decide +kernel
theorem dX10_readsSheet_199 : decode cX10_readsSheet 199 = .ok (.iload_n 2, 1) := by decide +kernel
theorem dX10_readsSheet_200 : decode cX10_readsSheet 200 = .ok (.iconst 4, 1) := by decide +kernel
theorem dX10_readsSheet_201 : decode cX10_readsSheet 201 = .ok (.iadd, 1) := by decide +kernel
theorem dX10_readsSheet_202 : decode cX10_readsSheet 202 = .ok (.aload_n 0, 1) := by decide +kernel
theorem dX10_readsSheet_203 : decode cX10_readsSheet 203 = .ok (.getfield 81, 3) := by decide +kernel
theorem dX10_readsSheet_206 : decode cX10_readsSheet 206 = .ok (.iastore, 1) := by decide +kernel
theorem dX10_readsSheet_207 : decode cX10_readsSheet 207 = .ok (.aload_n 0, 1) := by decide +kernel
theorem dX10_readsSheet_208 : decode cX10_readsSheet 208 = .ok (.getfield 34, 3) := by decide +kernel
theorem dX10_readsSheet_211 : decode cX10_readsSheet 211 = .ok (.iconst 1, 1) := by decide +kernel
theorem dX10_readsSheet_212 : decode cX10_readsSheet 212 = .ok (.dup2, 1) := by decide +kernel
theorem dX10_readsSheet_213 : decode cX10_readsSheet 213 = .ok (.iaload, 1) := by decide +kernel
theorem dX10_readsSheet_214 : decode cX10_readsSheet 214 = .ok (.iconst 1, 1) := by decide +kernel
theorem dX10_readsSheet_215 : decode cX10_readsSheet 215 = .ok (.iadd, 1) := by decide +kernel
theorem dX10_readsSheet_216 : decode cX10_readsSheet 216 = .ok (.iastore, 1) := by decide +kernel
theorem dX10_readsSheet_217 : decode cX10_readsSheet 217 = .ok (.goto 64, 3) := by decide +kernel
theorem dX10_readsSheet_220 : decode cX10_readsSheet 220 = .ok (.aload_n 0, 1) := by decide +kernel
theorem dX10_readsSheet_221 : decode cX10_readsSheet 221 = .ok (.aload_n 0, 1) := by decide +kernel
theorem dX10_readsSheet_222 : decode cX10_readsSheet 222 = .ok (.getfield 59, 3) := by decide +kernel
theorem dX10_readsSheet_225 : decode cX10_readsSheet 225 = .ok (.invokevirtual 62, 3) := by decide +kernel
theorem dX10_readsSheet_228 : decode cX10_readsSheet 228 = .ok (.bipush 47, 2) := by decide +kernel
theorem dX10_readsSheet_230 : decode cX10_readsSheet 230 = .ok (.if_icmp .ne 30, 3) := by decide +kernel
theorem dX10_readsSheet_233 : decode cX10_readsSheet 233 = .ok (.aload_n 0, 1) := by decide +kernel
theorem dX10_readsSheet_234 : decode cX10_readsSheet 234 = .ok (.getfield 34, 3) := by decide +kernel
theorem dX10_readsSheet_237 : decode cX10_readsSheet 237 = .ok (.iconst 4, 1) := by decide +kernel
theorem dX10_readsSheet_238 : decode cX10_readsSheet 238 = .ok (.aload_n 0, 1) := by decide +kernel
theorem dX10_readsSheet_239 : decode cX10_readsSheet 239 = .ok (.getfield 34, 3) := by decide +kernel
theorem dX10_readsSheet_242 : decode cX10_readsSheet 242 = .ok (.iconst 0, 1) := by decide +kernel
theorem dX10_readsSheet_243 : decode cX10_readsSheet 243 = .ok (.iaload, 1) := by decide +kernel
theorem dX10_readsSheet_244 : decode cX10_readsSheet 244 = .ok (.iadd, 1) := by decide +kernel
theorem dX10_readsSheet_245 : decode cX10_readsSheet 245 = .ok (.iload_n 1, 1) := by decide +kernel
theorem dX10_readsSheet_246 : decode cX10_readsSheet 246 = .ok (.iastore, 1) := by decide +kernel
theorem dX10_readsSheet_247 : decode cX10_readsSheet 247 = .ok (.aload_n 0, 1) := by decide +kernel
theorem dX10_readsSheet_248 : decode cX10_readsSheet 248 = .ok (.getfield 34, 3) := by decide +kernel
theorem dX10_readsSheet_251 : decode cX10_readsSheet 251 = .ok (.iconst 0, 1) := by decide +kernel
theorem dX10_readsSheet_252 : decode cX10_readsSheet 252 = .ok (.dup2, 1) := by decide +kernel
theorem dX10_readsSheet_253 : decode cX10_readsSheet 253 = .ok (.iaload, 1) := by decide +kernel
theorem dX10_readsSheet_254 : decode cX10_readsSheet 254 = .ok (.iconst 1, 1) := by decide +kernel
theorem dX10_readsSheet_255 : decode cX10_readsSheet 255 = .ok (.iadd, 1) := by decide +kernel
theorem dX10_readsSheet_256 : decode cX10_readsSheet 256 = .ok (.iastore, 1) := by decide +kernel
theorem dX10_readsSheet_257 : decode cX10_readsSheet 257 = .ok (.goto 24, 3) := by decide +kernel
theorem dX10_readsSheet_260 : decode cX10_readsSheet 260 = .ok (.aload_n 0, 1) := by decide +kernel
theorem dX10_readsSheet_261 : decode cX10_readsSheet 261 = .ok (.getfield 34, 3) := by decide +kernel
theorem dX10_readsSheet_264 : decode cX10_readsSheet 264 = .ok (.sipush 415, 3) := by decide +kernel
theorem dX10_readsSheet_267 : decode cX10_readsSheet 267 = .ok (.iload_n 1, 1) := by decide +kernel
theorem dX10_readsSheet_268 : decode cX10_readsSheet 268 = .ok (.iadd, 1) := by decide +kernel
theorem dX10_readsSheet_269 : decode cX10_readsSheet 269 = .ok (.aload_n 0, 1) := by decide +kernel
theorem dX10_readsSheet_270 : decode cX10_readsSheet 270 = .ok (.aload_n 0, 1) := by decide +kernel
theorem dX10_readsSheet_271 : decode cX10_readsSheet 271 = .ok (.getfield 59, 3) := by decide +kernel
theorem dX10_readsSheet_274 : decode cX10_readsSheet 274 = .ok (.invokevirtual 62, 3) := by decide +kernel
theorem dX10_readsSheet_277 : decode cX10_readsSheet 277 = .ok (.iastore, 1) := by decide +kernel
theorem dX10_readsSheet_278 : decode cX10_readsSheet 278 = .ok (.iinc 1 1, 3) := by decide +kernel
theorem dX10_readsSheet_281 : decode cX10_readsSheet 281 = .ok (.aload_n 0, 1) := by decide +kernel
theorem dX10_readsSheet_282 : decode cX10_readsSheet 282 = .ok (.dup, 1) := by decide +kernel
theorem dX10_readsSheet_283 : decode cX10_readsSheet 283 = .ok (.getfield 59, 3) := by decide +kernel
theorem dX10_readsSheet_286 : decode cX10_readsSheet 286 = .ok (.iconst 1, 1) := by decide +kernel
theorem dX10_readsSheet_287 : decode cX10_readsSheet 287 = .ok (.iadd, 1) := by decide +kernel
theorem dX10_readsSheet_288 : decode cX10_readsSheet 288 = .ok (.putfield 59, 3) := by decide +kernel
theorem dX10_readsSheet_291 : decode cX10_readsSheet 291 = .ok (.goto (-255), 3) := by decide +kernel
theorem dX10_readsSheet_294 : decode cX10_readsSheet 294 = .ok (.aload_n 0, 1) := by decide +kernel
theorem dX10_readsSheet_295 : decode cX10_readsSheet 295 = .ok (.getfield 34, 3) := by decide +kernel
theorem dX10_readsSheet_298 : decode cX10_readsSheet 298 = .ok (.iconst 4, 1) := by decide +kernel
theorem dX10_readsSheet_299 : decode cX10_readsSheet 299 = .ok (.aload_n 0, 1) := by decide +kernel
theorem dX10_readsSheet_300 : decode cX10_readsSheet 300 = .ok (.getfield 34, 3) := by decide +kernel
theorem dX10_readsSheet_303 : decode cX10_readsSheet 303 = .ok (.iconst 0, 1) := by decide +kernel
theorem dX10_readsSheet_304 : decode cX10_readsSheet 304 = .ok (.iaload, 1) := by decide +kernel
theorem dX10_readsSheet_305 : decode cX10_readsSheet 305 = .ok (.iadd, 1) := by decide +kernel
theorem dX10_readsSheet_306 : decode cX10_readsSheet 306 = .ok (.iload_n 1, 1) := by decide +kernel
theorem dX10_readsSheet_307 : decode cX10_readsSheet 307 = .ok (.iastore, 1) := by decide +kernel
theorem dX10_readsSheet_308 : decode cX10_readsSheet 308 = .ok (.iconst 1, 1) := by decide +kernel
theorem dX10_readsSheet_309 : decode cX10_readsSheet 309 = .ok (.ireturn, 1) := by decide +kernel
theorem dX10_type_0 : decode cX10_type 0 = .ok (.aload_n 0, 1) := by decide +kernel
theorem dX10_type_1 : decode cX10_type 1 = .ok (.iconst 0, 1) := by decide +kernel
theorem dX10_type_2 : decode cX10_type 2 = .ok (.putfield 46, 3) := by decide +kernel
theorem dX10_type_5 : decode cX10_type 5 = .ok (.iload_n 1, 1) := by decide +kernel
theorem dX10_type_6 : decode cX10_type 6 = .ok (.bipush 32, 2) := by decide +kernel
theorem dX10_type_8 : decode cX10_type 8 = .ok (.bipush 126, 2) := by decide +kernel
theorem dX10_type_10 : decode cX10_type 10 = .ok (.invokestatic 97, 3) := by decide +kernel
theorem dX10_type_13 : decode cX10_type 13 = .ok (.ifCond .ne 9, 3) := by decide +kernel
theorem dX10_type_16 : decode cX10_type 16 = .ok (.aload_n 0, 1) := by decide +kernel
theorem dX10_type_17 : decode cX10_type 17 = .ok (.iconst 1, 1) := by decide +kernel
theorem dX10_type_18 : decode cX10_type 18 = .ok (.invokevirtual 101, 3) := by decide +kernel
theorem dX10_type_21 : decode cX10_type 21 = .ok (.ireturn, 1) := by decide +kernel
theorem dX10_type_22 : decode cX10_type 22 = .ok (.aload_n 0, 1) := by decide +kernel
theorem dX10_type_23 : decode cX10_type 23 = .ok (.getfield 56, 3) := by decide +kernel
theorem dX10_type_26 : decode cX10_type 26 = .ok (.sipush 200, 3) := by decide +kernel
theorem dX10_type_29 : decode cX10_type 29 = .ok (.if_icmp .ne 9, 3) := by decide +kernel
theorem dX10_type_32 : decode cX10_type 32 = .ok (.aload_n 0, 1) := by decide +kernel
theorem dX10_type_33 : decode cX10_type 33 = .ok (.iconst 2, 1) := by decide +kernel
theorem dX10_type_34 : decode cX10_type 34 = .ok (.invokevirtual 101, 3) := by decide +kernel
theorem dX10_type_37 : decode cX10_type 37 = .ok (.ireturn, 1) := by decide +kernel
theorem dX10_type_38 : decode cX10_type 38 = .ok (.aload_n 0, 1) := by decide +kernel
theorem dX10_type_39 : decode cX10_type 39 = .ok (.getfield 16, 3) := by decide +kernel
theorem dX10_type_42 : decode cX10_type 42 = .ok (.aload_n 0, 1) := by decide +kernel
theorem dX10_type_43 : decode cX10_type 43 = .ok (.getfield 56, 3) := by decide +kernel
theorem dX10_type_46 : decode cX10_type 46 = .ok (.iload_n 1, 1) := by decide +kernel
theorem dX10_type_47 : decode cX10_type 47 = .ok (.iastore, 1) := by decide +kernel
theorem dX10_type_48 : decode cX10_type 48 = .ok (.aload_n 0, 1) := by decide +kernel
theorem dX10_type_49 : decode cX10_type 49 = .ok (.dup, 1) := by decide +kernel
theorem dX10_type_50 : decode cX10_type 50 = .ok (.getfield 56, 3) := by decide +kernel
theorem dX10_type_53 : decode cX10_type 53 = .ok (.iconst 1, 1) := by decide +kernel
theorem dX10_type_54 : decode cX10_type 54 = .ok (.iadd, 1) := by decide +kernel
theorem dX10_type_55 : decode cX10_type 55 = .ok (.putfield 56, 3) := by decide +kernel
theorem dX10_type_58 : decode cX10_type 58 = .ok (.aload_n 0, 1) := by decide +kernel
theorem dX10_type_59 : decode cX10_type 59 = .ok (.getfield 56, 3) := by decide +kernel
theorem dX10_type_62 : decode cX10_type 62 = .ok (.ireturn, 1) := by decide +kernel
theorem dX10_clearText_0 : decode cX10_clearText 0 = .ok (.aload_n 0, 1) := by decide +kernel
theorem dX10_clearText_1 : decode cX10_clearText 1 = .ok (.iconst 0, 1) := by decide +kernel
theorem dX10_clearText_2 : decode cX10_clearText 2 = .ok (.putfield 46, 3) := by decide +kernel
theorem dX10_clearText_5 : decode cX10_clearText 5 = .ok (.aload_n 0, 1) := by decide +kernel
theorem dX10_clearText_6 : decode cX10_clearText 6 = .ok (.getfield 56, 3) := by decide +kernel
theorem dX10_clearText_9 : decode cX10_clearText 9 = .ok (.istore_n 1, 1) := by decide +kernel
theorem dX10_clearText_10 : decode cX10_clearText 10 = .ok (.aload_n 0, 1) := by decide +kernel
theorem dX10_clearText_11 : decode cX10_clearText 11 = .ok (.iconst 0, 1) := by decide +kernel
theorem dX10_clearText_12 : decode cX10_clearText 12 = .ok (.putfield 56, 3) := by decide +kernel
theorem dX10_clearText_15 : decode cX10_clearText 15 = .ok (.iload_n 1, 1) := by decide +kernel
theorem dX10_clearText_16 : decode cX10_clearText 16 = .ok (.ireturn, 1) := by decide +kernel
theorem dX10_read_0 : decode cX10_read 0 = .ok (.aload_n 0, 1) := by decide +kernel
theorem dX10_read_1 : decode cX10_read 1 = .ok (.iconst 0, 1) := by decide +kernel
theorem dX10_read_2 : decode cX10_read 2 = .ok (.putfield 46, 3) := by decide +kernel
theorem dX10_read_5 : decode cX10_read 5 = .ok (.aload_n 0, 1) := by decide +kernel
theorem dX10_read_6 : decode cX10_read 6 = .ok (.invokevirtual 104, 3) := by decide +kernel
theorem dX10_read_9 : decode cX10_read 9 = .ok (.ifCond .ne 10, 3) := by decide +kernel
theorem dX10_read_12 : decode cX10_read 12 = .ok (.iconst (-1), 1) := by decide +kernel
theorem dX10_read_13 : decode cX10_read 13 = .ok (.aload_n 0, 1) := by decide +kernel
theorem dX10_read_14 : decode cX10_read 14 = .ok (.getfield 59, 3) := by decide +kernel
theorem dX10_read_17 : decode cX10_read 17 = .ok (.isub, 1) := by decide +kernel
theorem dX10_read_18 : decode cX10_read 18 = .ok (.ireturn, 1) := by decide +kernel
theorem dX10_read_19 : decode cX10_read 19 = .ok (.aload_n 0, 1) := by decide +kernel
theorem dX10_read_20 : decode cX10_read 20 = .ok (.invokevirtual 107, 3) := by decide +kernel
theorem dX10_read_23 : decode cX10_read 23 = .ok (.iconst 0, 1) := by decide +kernel
theorem dX10_read_24 : decode cX10_read 24 = .ok (.istore_n 1, 1) := by decide +kernel
theorem dX10_read_25 : decode cX10_read 25 = .ok (.iload_n 1, 1) := by decide +kernel
theorem dX10_read_26 : decode cX10_read 26 = .ok (.sipush 620, 3) := by decide +kernel
theorem dX10_read_29 : decode cX10_read 29 = .ok (.if_icmp .ge 21, 3) := by decide +kernel
theorem dX10_read_32 : decode cX10_read 32 = .ok (.aload_n 0, 1) := by decide +kernel
theorem dX10_read_33 : decode cX10_read 33 = .ok (.getfield 7, 3) := by decide +kernel
theorem dX10_read_36 : decode cX10_read 36 = .ok (.iload_n 1, 1) := by decide +kernel
theorem dX10_read_37 : decode cX10_read 37 = .ok (.aload_n 0, 1) := by decide +kernel
theorem dX10_read_38 : decode cX10_read 38 = .ok (.getfield 34, 3) := by decide +kernel
theorem dX10_read_41 : decode cX10_read 41 = .ok (.iload_n 1, 1) := by decide +kernel
theorem dX10_read_42 : decode cX10_read 42 = .ok (.iaload, 1) := by decide +kernel
theorem dX10_read_43 : decode cX10_read 43 = .ok (.iastore, 1) := by decide +kernel
theorem dX10_read_44 : decode cX10_read 44 = .ok (.iinc 1 1, 3) := by decide +kernel
theorem dX10_read_47 : decode cX10_read 47 = .ok (.goto (-22), 3) := by decide +kernel
theorem dX10_read_50 : decode cX10_read 50 = .ok (.aload_n 0, 1) := by decide +kernel
theorem dX10_read_51 : decode cX10_read 51 = .ok (.iconst 0, 1) := by decide +kernel
theorem dX10_read_52 : decode cX10_read 52 = .ok (.putfield 56, 3) := by decide +kernel
theorem dX10_read_55 : decode cX10_read 55 = .ok (.aload_n 0, 1) := by decide +kernel
theorem dX10_read_56 : decode cX10_read 56 = .ok (.invokevirtual 110, 3) := by decide +kernel
theorem dX10_read_59 : decode cX10_read 59 = .ok (.istore_n 1, 1) := by decide +kernel
theorem dX10_read_60 : decode cX10_read 60 = .ok (.aload_n 0, 1) := by decide +kernel
theorem dX10_read_61 : decode cX10_read 61 = .ok (.getfield 7, 3) := by decide +kernel
theorem dX10_read_64 : decode cX10_read 64 = .ok (.iconst 2, 1) := by decide +kernel
theorem dX10_read_65 : decode cX10_read 65 = .ok (.iload_n 1, 1) := by decide +kernel
theorem dX10_read_66 : decode cX10_read 66 = .ok (.bipush 50, 2) := by decide +kernel
theorem dX10_read_68 : decode cX10_read 68 = .ok (.if_icmp .lt 10, 3) := by decide +kernel
theorem dX10_read_71 : decode cX10_read 71 = .ok (.iload_n 1, 1) := by decide +kernel
theorem dX10_read_72 : decode cX10_read 72 = .ok (.bipush 100, 2) := by decide +kernel
theorem dX10_read_74 : decode cX10_read 74 = .ok (.isub, 1) := by decide +kernel
theorem dX10_read_75 : decode cX10_read 75 = .ok (.goto 4, 3) := by decide +kernel
theorem dX10_read_78 : decode cX10_read 78 = .ok (.iload_n 1, 1) := by decide +kernel
theorem dX10_read_79 : decode cX10_read 79 = .ok (.iastore, 1) := by decide +kernel
theorem dX10_read_80 : decode cX10_read 80 = .ok (.aload_n 0, 1) := by decide +kernel
theorem dX10_read_81 : decode cX10_read 81 = .ok (.getfield 7, 3) := by decide +kernel
theorem dX10_read_84 : decode cX10_read 84 = .ok (.iconst 3, 1) := by decide +kernel
theorem dX10_read_85 : decode cX10_read 85 = .ok (.iload_n 1, 1) := by decide +kernel
theorem dX10_read_86 : decode cX10_read 86 = .ok (.bipush 50, 2) := by decide +kernel
theorem dX10_read_88 : decode cX10_read 88 = .ok (.if_icmp .lt 7, 3) := by decide +kernel
theorem dX10_read_91 : decode cX10_read 91 = .ok (.iconst 1, 1) := by decide +kernel
theorem dX10_read_92 : decode cX10_read 92 = .ok (.goto 4, 3) := by decide +kernel
theorem dX10_read_95 : decode cX10_read 95 = .ok (.iconst 0, 1) := by decide +kernel
theorem dX10_read_96 : decode cX10_read 96 = .ok (.iastore, 1) := by decide +kernel
theorem dX10_read_97 : decode cX10_read 97 = .ok (.aload_n 0, 1) := by decide +kernel
theorem dX10_read_98 : decode cX10_read 98 = .ok (.getfield 7, 3) := by decide +kernel
theorem dX10_read_101 : decode cX10_read 101 = .ok (.iconst 1, 1) := by decide +kernel
theorem dX10_read_102 : decode cX10_read 102 = .ok (.iaload, 1) := by decide +kernel
theorem dX10_read_103 : decode cX10_read 103 = .ok (.ireturn, 1) := by decide +kernel
theorem dX10_setSimple_0 : decode cX10_setSimple 0 = .ok (.aload_n 0, 1) := by decide +kernel
theorem dX10_setSimple_1 : decode cX10_setSimple 1 = .ok (.iconst 0, 1) := by decide +kernel
theorem dX10_setSimple_2 : decode cX10_setSimple 2 = .ok (.putfield 46, 3) := by decide +kernel
theorem dX10_setSimple_5 : decode cX10_setSimple 5 = .ok (.aload_n 0, 1) := by decide +kernel
theorem dX10_setSimple_6 : decode cX10_setSimple 6 = .ok (.getfield 19, 3) := by decide +kernel
theorem dX10_setSimple_9 : decode cX10_setSimple 9 = .ok (.istore_n 2, 1) := by decide +kernel
theorem dX10_setSimple_10 : decode cX10_setSimple 10 = .ok (.aload_n 0, 1) := by decide +kernel
theorem dX10_setSimple_11 : decode cX10_setSimple 11 = .ok (.iload_n 1, 1) := by decide +kernel
theorem dX10_setSimple_12 : decode cX10_setSimple 12 = .ok (.putfield 19, 3) := by decide +kernel
theorem dX10_setSimple_15 : decode cX10_setSimple 15 = .ok (.iload_n 2, 1) := by decide +kernel
theorem dX10_setSimple_16 : decode cX10_setSimple 16 = .ok (.ireturn, 1) := by decide +kernel
theorem dX10_setFlats_0 : decode cX10_setFlats 0 = .ok (.aload_n 0, 1) := by decide +kernel
theorem dX10_setFlats_1 : decode cX10_setFlats 1 = .ok (.iconst 0, 1) := by decide +kernel
theorem dX10_setFlats_2 : decode cX10_setFlats 2 = .ok (.putfield 46, 3) := by decide +kernel
theorem dX10_setFlats_5 : decode cX10_setFlats 5 = .ok (.aload_n 0, 1) := by decide +kernel
theorem dX10_setFlats_6 : decode cX10_setFlats 6 = .ok (.getfield 114, 3) := by decide +kernel
theorem dX10_setFlats_9 : decode cX10_setFlats 9 = .ok (.istore_n 2, 1) := by decide +kernel
theorem dX10_setFlats_10 : decode cX10_setFlats 10 = .ok (.aload_n 0, 1) := by decide +kernel
theorem dX10_setFlats_11 : decode cX10_setFlats 11 = .ok (.iload_n 1, 1) := by decide +kernel
theorem dX10_setFlats_12 : decode cX10_setFlats 12 = .ok (.putfield 114, 3) := by decide +kernel
theorem dX10_setFlats_15 : decode cX10_setFlats 15 = .ok (.iload_n 2, 1) := by decide +kernel
theorem dX10_setFlats_16 : decode cX10_setFlats 16 = .ok (.ireturn, 1) := by decide +kernel
theorem dX10_setWidth_0 : decode cX10_setWidth 0 = .ok (.aload_n 0, 1) := by decide +kernel
theorem dX10_setWidth_1 : decode cX10_setWidth 1 = .ok (.iconst 0, 1) := by decide +kernel
theorem dX10_setWidth_2 : decode cX10_setWidth 2 = .ok (.putfield 46, 3) := by decide +kernel
theorem dX10_setWidth_5 : decode cX10_setWidth 5 = .ok (.iload_n 1, 1) := by decide +kernel
theorem dX10_setWidth_6 : decode cX10_setWidth 6 = .ok (.bipush 10, 2) := by decide +kernel
theorem dX10_setWidth_8 : decode cX10_setWidth 8 = .ok (.sipush 200, 3) := by decide +kernel
theorem dX10_setWidth_11 : decode cX10_setWidth 11 = .ok (.invokestatic 97, 3) := by decide +kernel
theorem dX10_setWidth_14 : decode cX10_setWidth 14 = .ok (.ifCond .ne 9, 3) := by decide +kernel
theorem dX10_setWidth_17 : decode cX10_setWidth 17 = .ok (.aload_n 0, 1) := by decide +kernel
theorem dX10_setWidth_18 : decode cX10_setWidth 18 = .ok (.iconst 1, 1) := by decide +kernel
theorem dX10_setWidth_19 : decode cX10_setWidth 19 = .ok (.invokevirtual 101, 3) := by decide +kernel
theorem dX10_setWidth_22 : decode cX10_setWidth 22 = .ok (.ireturn, 1) := by decide +kernel
theorem dX10_setWidth_23 : decode cX10_setWidth 23 = .ok (.aload_n 0, 1) := by decide +kernel
theorem dX10_setWidth_24 : decode cX10_setWidth 24 = .ok (.getfield 23, 3) := by decide +kernel
theorem dX10_setWidth_27 : decode cX10_setWidth 27 = .ok (.istore_n 2, 1) := by decide +kernel
theorem dX10_setWidth_28 : decode cX10_setWidth 28 = .ok (.aload_n 0, 1) := by decide +kernel
theorem dX10_setWidth_29 : decode cX10_setWidth 29 = .ok (.iload_n 1, 1) := by decide +kernel
theorem dX10_setWidth_30 : decode cX10_setWidth 30 = .ok (.putfield 23, 3) := by decide +kernel
theorem dX10_setWidth_33 : decode cX10_setWidth 33 = .ok (.iload_n 2, 1) := by decide +kernel
theorem dX10_setWidth_34 : decode cX10_setWidth 34 = .ok (.ireturn, 1) := by decide +kernel
theorem dX10_lines_0 : decode cX10_lines 0 = .ok (.aload_n 0, 1) := by decide +kernel
theorem dX10_lines_1 : decode cX10_lines 1 = .ok (.iconst 0, 1) := by decide +kernel
theorem dX10_lines_2 : decode cX10_lines 2 = .ok (.putfield 46, 3) := by decide +kernel
theorem dX10_lines_5 : decode cX10_lines 5 = .ok (.aload_n 0, 1) := by decide +kernel
theorem dX10_lines_6 : decode cX10_lines 6 = .ok (.getfield 7, 3) := by decide +kernel
theorem dX10_lines_9 : decode cX10_lines 9 = .ok (.iconst 0, 1) := by decide +kernel
theorem dX10_lines_10 : decode cX10_lines 10 = .ok (.iaload, 1) := by decide +kernel
theorem dX10_lines_11 : decode cX10_lines 11 = .ok (.ireturn, 1) := by decide +kernel
theorem dX10_isLine_0 : decode cX10_isLine 0 = .ok (.iload_n 1, 1) := by decide +kernel
theorem dX10_isLine_1 : decode cX10_isLine 1 = .ok (.iconst 0, 1) := by decide +kernel
theorem dX10_isLine_2 : decode cX10_isLine 2 = .ok (.aload_n 0, 1) := by decide +kernel
theorem dX10_isLine_3 : decode cX10_isLine 3 = .ok (.getfield 7, 3) := by decide +kernel
theorem dX10_isLine_6 : decode cX10_isLine 6 = .ok (.iconst 0, 1) := by decide +kernel
theorem dX10_isLine_7 : decode cX10_isLine 7 = .ok (.iaload, 1) := by decide +kernel
theorem dX10_isLine_8 : decode cX10_isLine 8 = .ok (.iconst 1, 1) := by decide +kernel
theorem dX10_isLine_9 : decode cX10_isLine 9 = .ok (.isub, 1) := by decide +kernel
theorem dX10_isLine_10 : decode cX10_isLine 10 = .ok (.invokestatic 97, 3) := by decide +kernel
theorem dX10_isLine_13 : decode cX10_isLine 13 = .ok (.ireturn, 1) := by decide +kernel
theorem dX10_lengthOf_0 : decode cX10_lengthOf 0 = .ok (.aload_n 0, 1) := by decide +kernel
theorem dX10_lengthOf_1 : decode cX10_lengthOf 1 = .ok (.getfield 7, 3) := by decide +kernel
theorem dX10_lengthOf_4 : decode cX10_lengthOf 4 = .ok (.iconst 4, 1) := by decide +kernel
theorem dX10_lengthOf_5 : decode cX10_lengthOf 5 = .ok (.iload_n 1, 1) := by decide +kernel
theorem dX10_lengthOf_6 : decode cX10_lengthOf 6 = .ok (.iadd, 1) := by decide +kernel
theorem dX10_lengthOf_7 : decode cX10_lengthOf 7 = .ok (.iconst 1, 1) := by decide +kernel
theorem dX10_lengthOf_8 : decode cX10_lengthOf 8 = .ok (.iadd, 1) := by decide +kernel
theorem dX10_lengthOf_9 : decode cX10_lengthOf 9 = .ok (.iaload, 1) := by decide +kernel
theorem dX10_lengthOf_10 : decode cX10_lengthOf 10 = .ok (.aload_n 0, 1) := by decide +kernel
theorem dX10_lengthOf_11 : decode cX10_lengthOf 11 = .ok (.getfield 7, 3) := by decide +kernel
theorem dX10_lengthOf_14 : decode cX10_lengthOf 14 = .ok (.iconst 4, 1) := by decide +kernel
theorem dX10_lengthOf_15 : decode cX10_lengthOf 15 = .ok (.iload_n 1, 1) := by decide +kernel
theorem dX10_lengthOf_16 : decode cX10_lengthOf 16 = .ok (.iadd, 1) := by decide +kernel
theorem dX10_lengthOf_17 : decode cX10_lengthOf 17 = .ok (.iaload, 1) := by decide +kernel
theorem dX10_lengthOf_18 : decode cX10_lengthOf 18 = .ok (.isub, 1) := by decide +kernel
theorem dX10_lengthOf_19 : decode cX10_lengthOf 19 = .ok (.ireturn, 1) := by decide +kernel
theorem dX10_lyrics_0 : decode cX10_lyrics 0 = .ok (.aload_n 0, 1) := by decide +kernel
theorem dX10_lyrics_1 : decode cX10_lyrics 1 = .ok (.iconst 0, 1) := by decide +kernel
theorem dX10_lyrics_2 : decode cX10_lyrics 2 = .ok (.putfield 46, 3) := by decide +kernel
theorem dX10_lyrics_5 : decode cX10_lyrics 5 = .ok (.aload_n 0, 1) := by decide +kernel
theorem dX10_lyrics_6 : decode cX10_lyrics 6 = .ok (.iload_n 1, 1) := by decide +kernel
theorem dX10_lyrics_7 : decode cX10_lyrics 7 = .ok (.invokevirtual 117, 3) := by decide +kernel
theorem dX10_lyrics_10 : decode cX10_lyrics 10 = .ok (.ifCond .eq 11, 3) := by decide +kernel
theorem dX10_lyrics_13 : decode cX10_lyrics 13 = .ok (.aload_n 0, 1) := by decide +kernel
theorem dX10_lyrics_14 : decode cX10_lyrics 14 = .ok (.iload_n 1, 1) := by decide +kernel
theorem dX10_lyrics_15 : decode cX10_lyrics 15 = .ok (.invokevirtual 120, 3) := by decide +kernel
theorem dX10_lyrics_18 : decode cX10_lyrics 18 = .ok (.goto 8, 3) := by decide +kernel
theorem dX10_lyrics_21 : decode cX10_lyrics 21 = .ok (.aload_n 0, 1) := by decide +kernel
theorem dX10_lyrics_22 : decode cX10_lyrics 22 = .ok (.iconst 1, 1) := by decide +kernel
theorem dX10_lyrics_23 : decode cX10_lyrics 23 = .ok (.invokevirtual 101, 3) := by decide +kernel
theorem dX10_lyrics_26 : decode cX10_lyrics 26 = .ok (.ireturn, 1) := by decide +kernel
theorem dX10_lyricAt_0 : decode cX10_lyricAt 0 = .ok (.aload_n 0, 1) := by decide +kernel
theorem dX10_lyricAt_1 : decode cX10_lyricAt 1 = .ok (.getfield 7, 3) := by decide +kernel
theorem dX10_lyricAt_4 : decode cX10_lyricAt 4 = .ok (.sipush 415, 3) := by decide +kernel
theorem dX10_lyricAt_7 : decode cX10_lyricAt 7 = .ok (.aload_n 0, 1) := by decide +kernel
theorem dX10_lyricAt_8 : decode cX10_lyricAt 8 = .ok (.getfield 7, 3) := by decide +kernel
theorem dX10_lyricAt_11 : decode cX10_lyricAt 11 = .ok (.iconst 4, 1) := by decide +kernel
theorem dX10_lyricAt_12 : decode cX10_lyricAt 12 = .ok (.iload_n 1, 1) := by decide +kernel
theorem dX10_lyricAt_13 : decode cX10_lyricAt 13 = .ok (.iadd, 1) := by decide +kernel
theorem dX10_lyricAt_14 : decode cX10_lyricAt 14 = .ok (.iaload, 1) := by decide +kernel
theorem dX10_lyricAt_15 : decode cX10_lyricAt 15 = .ok (.iadd, 1) := by decide +kernel
theorem dX10_lyricAt_16 : decode cX10_lyricAt 16 = .ok (.iload_n 2, 1) := by decide +kernel
theorem dX10_lyricAt_17 : decode cX10_lyricAt 17 = .ok (.iadd, 1) := by decide +kernel
theorem dX10_lyricAt_18 : decode cX10_lyricAt 18 = .ok (.iaload, 1) := by decide +kernel
theorem dX10_lyricAt_19 : decode cX10_lyricAt 19 = .ok (.ireturn, 1) := by decide +kernel
theorem dX10_lyric_0 : decode cX10_lyric 0 = .ok (.aload_n 0, 1) := by decide +kernel
theorem dX10_lyric_1 : decode cX10_lyric 1 = .ok (.iconst 0, 1) := by decide +kernel
theorem dX10_lyric_2 : decode cX10_lyric 2 = .ok (.putfield 46, 3) := by decide +kernel
theorem dX10_lyric_5 : decode cX10_lyric 5 = .ok (.aload_n 0, 1) := by decide +kernel
theorem dX10_lyric_6 : decode cX10_lyric 6 = .ok (.iload_n 1, 1) := by decide +kernel
theorem dX10_lyric_7 : decode cX10_lyric 7 = .ok (.invokevirtual 117, 3) := by decide +kernel
theorem dX10_lyric_10 : decode cX10_lyric 10 = .ok (.ifCond .eq 27, 3) := by decide +kernel
theorem dX10_lyric_13 : decode cX10_lyric 13 = .ok (.iload_n 2, 1) := by decide +kernel
theorem dX10_lyric_14 : decode cX10_lyric 14 = .ok (.iconst 0, 1) := by decide +kernel
theorem dX10_lyric_15 : decode cX10_lyric 15 = .ok (.aload_n 0, 1) := by decide +kernel
theorem dX10_lyric_16 : decode cX10_lyric 16 = .ok (.iload_n 1, 1) := by decide +kernel
theorem dX10_lyric_17 : decode cX10_lyric 17 = .ok (.invokevirtual 120, 3) := by decide +kernel
theorem dX10_lyric_20 : decode cX10_lyric 20 = .ok (.iconst 1, 1) := by decide +kernel
theorem dX10_lyric_21 : decode cX10_lyric 21 = .ok (.isub, 1) := by decide +kernel
theorem dX10_lyric_22 : decode cX10_lyric 22 = .ok (.invokestatic 97, 3) := by decide +kernel
theorem dX10_lyric_25 : decode cX10_lyric 25 = .ok (.ifCond .eq 12, 3) := by decide +kernel
theorem dX10_lyric_28 : decode cX10_lyric 28 = .ok (.aload_n 0, 1) := by decide +kernel
theorem dX10_lyric_29 : decode cX10_lyric 29 = .ok (.iload_n 1, 1) := by decide +kernel
theorem dX10_lyric_30 : decode cX10_lyric 30 = .ok (.iload_n 2, 1) := by decide +kernel
theorem dX10_lyric_31 : decode cX10_lyric 31 = .ok (.invokevirtual 123, 3) := by decide +kernel
theorem dX10_lyric_34 : decode cX10_lyric 34 = .ok (.goto 8, 3) := by decide +kernel
theorem dX10_lyric_37 : decode cX10_lyric 37 = .ok (.aload_n 0, 1) := by decide +kernel
theorem dX10_lyric_38 : decode cX10_lyric 38 = .ok (.iconst 1, 1) := by decide +kernel
theorem dX10_lyric_39 : decode cX10_lyric 39 = .ok (.invokevirtual 101, 3) := by decide +kernel
theorem dX10_lyric_42 : decode cX10_lyric 42 = .ok (.ireturn, 1) := by decide +kernel
theorem dX10_chords_0 : decode cX10_chords 0 = .ok (.aload_n 0, 1) := by decide +kernel
theorem dX10_chords_1 : decode cX10_chords 1 = .ok (.iconst 0, 1) := by decide +kernel
theorem dX10_chords_2 : decode cX10_chords 2 = .ok (.putfield 46, 3) := by decide +kernel
theorem dX10_chords_5 : decode cX10_chords 5 = .ok (.aload_n 0, 1) := by decide +kernel
theorem dX10_chords_6 : decode cX10_chords 6 = .ok (.getfield 7, 3) := by decide +kernel
theorem dX10_chords_9 : decode cX10_chords 9 = .ok (.iconst 1, 1) := by decide +kernel
theorem dX10_chords_10 : decode cX10_chords 10 = .ok (.iaload, 1) := by decide +kernel
theorem dX10_chords_11 : decode cX10_chords 11 = .ok (.ireturn, 1) := by decide +kernel
theorem dX10_isChord_0 : decode cX10_isChord 0 = .ok (.iload_n 1, 1) := by decide +kernel
theorem dX10_isChord_1 : decode cX10_isChord 1 = .ok (.iconst 0, 1) := by decide +kernel
theorem dX10_isChord_2 : decode cX10_isChord 2 = .ok (.aload_n 0, 1) := by decide +kernel
theorem dX10_isChord_3 : decode cX10_isChord 3 = .ok (.getfield 7, 3) := by decide +kernel
theorem dX10_isChord_6 : decode cX10_isChord 6 = .ok (.iconst 1, 1) := by decide +kernel
theorem dX10_isChord_7 : decode cX10_isChord 7 = .ok (.iaload, 1) := by decide +kernel
theorem dX10_isChord_8 : decode cX10_isChord 8 = .ok (.iconst 1, 1) := by decide +kernel
theorem dX10_isChord_9 : decode cX10_isChord 9 = .ok (.isub, 1) := by decide +kernel
theorem dX10_isChord_10 : decode cX10_isChord 10 = .ok (.invokestatic 97, 3) := by decide +kernel
theorem dX10_isChord_13 : decode cX10_isChord 13 = .ok (.ireturn, 1) := by decide +kernel
theorem dX10_told_0 : decode cX10_told 0 = .ok (.aload_n 0, 1) := by decide +kernel
theorem dX10_told_1 : decode cX10_told 1 = .ok (.iconst 0, 1) := by decide +kernel
theorem dX10_told_2 : decode cX10_told 2 = .ok (.putfield 46, 3) := by decide +kernel
theorem dX10_told_5 : decode cX10_told 5 = .ok (.aload_n 0, 1) := by decide +kernel
theorem dX10_told_6 : decode cX10_told 6 = .ok (.iload_n 1, 1) := by decide +kernel
theorem dX10_told_7 : decode cX10_told 7 = .ok (.invokevirtual 127, 3) := by decide +kernel
theorem dX10_told_10 : decode cX10_told 10 = .ok (.ifCond .eq 17, 3) := by decide +kernel
theorem dX10_told_13 : decode cX10_told 13 = .ok (.aload_n 0, 1) := by decide +kernel
theorem dX10_told_14 : decode cX10_told 14 = .ok (.getfield 7, 3) := by decide +kernel
theorem dX10_told_17 : decode cX10_told 17 = .ok (.iload_n 1, 1) := by decide +kernel
theorem dX10_told_18 : decode cX10_told 18 = .ok (.invokestatic 94, 3) := by decide +kernel
theorem dX10_told_21 : decode cX10_told 21 = .ok (.iload_n 2, 1) := by decide +kernel
theorem dX10_told_22 : decode cX10_told 22 = .ok (.iadd, 1) := by decide +kernel
theorem dX10_told_23 : decode cX10_told 23 = .ok (.iaload, 1) := by decide +kernel
theorem dX10_told_24 : decode cX10_told 24 = .ok (.goto 8, 3) := by decide +kernel
theorem dX10_told_27 : decode cX10_told 27 = .ok (.aload_n 0, 1) := by decide +kernel
theorem dX10_told_28 : decode cX10_told 28 = .ok (.iconst 1, 1) := by decide +kernel
theorem dX10_told_29 : decode cX10_told 29 = .ok (.invokevirtual 101, 3) := by decide +kernel
theorem dX10_told_32 : decode cX10_told 32 = .ok (.ireturn, 1) := by decide +kernel
theorem dX10_lineOf_0 : decode cX10_lineOf 0 = .ok (.aload_n 0, 1) := by decide +kernel
theorem dX10_lineOf_1 : decode cX10_lineOf 1 = .ok (.iload_n 1, 1) := by decide +kernel
theorem dX10_lineOf_2 : decode cX10_lineOf 2 = .ok (.iconst 0, 1) := by decide +kernel
theorem dX10_lineOf_3 : decode cX10_lineOf 3 = .ok (.invokevirtual 130, 3) := by decide +kernel
theorem dX10_lineOf_6 : decode cX10_lineOf 6 = .ok (.ireturn, 1) := by decide +kernel
theorem dX10_columnOf_0 : decode cX10_columnOf 0 = .ok (.aload_n 0, 1) := by decide +kernel
theorem dX10_columnOf_1 : decode cX10_columnOf 1 = .ok (.iload_n 1, 1) := by decide +kernel
theorem dX10_columnOf_2 : decode cX10_columnOf 2 = .ok (.iconst 1, 1) := by decide +kernel
theorem dX10_columnOf_3 : decode cX10_columnOf 3 = .ok (.invokevirtual 130, 3) := by decide +kernel
theorem dX10_columnOf_6 : decode cX10_columnOf 6 = .ok (.ireturn, 1) := by decide +kernel
theorem dX10_rootOf_0 : decode cX10_rootOf 0 = .ok (.aload_n 0, 1) := by decide +kernel
theorem dX10_rootOf_1 : decode cX10_rootOf 1 = .ok (.iload_n 1, 1) := by decide +kernel
theorem dX10_rootOf_2 : decode cX10_rootOf 2 = .ok (.iconst 2, 1) := by decide +kernel
theorem dX10_rootOf_3 : decode cX10_rootOf 3 = .ok (.invokevirtual 130, 3) := by decide +kernel
theorem dX10_rootOf_6 : decode cX10_rootOf 6 = .ok (.ireturn, 1) := by decide +kernel
theorem dX10_qualityOf_0 : decode cX10_qualityOf 0 = .ok (.aload_n 0, 1) := by decide +kernel
theorem dX10_qualityOf_1 : decode cX10_qualityOf 1 = .ok (.iload_n 1, 1) := by decide +kernel
theorem dX10_qualityOf_2 : decode cX10_qualityOf 2 = .ok (.iconst 3, 1) := by decide +kernel
theorem dX10_qualityOf_3 : decode cX10_qualityOf 3 = .ok (.invokevirtual 130, 3) := by decide +kernel
theorem dX10_qualityOf_6 : decode cX10_qualityOf 6 = .ok (.ireturn, 1) := by decide +kernel
theorem dX10_bassOf_0 : decode cX10_bassOf 0 = .ok (.aload_n 0, 1) := by decide +kernel
theorem dX10_bassOf_1 : decode cX10_bassOf 1 = .ok (.iload_n 1, 1) := by decide +kernel
theorem dX10_bassOf_2 : decode cX10_bassOf 2 = .ok (.iconst 4, 1) := by decide +kernel
theorem dX10_bassOf_3 : decode cX10_bassOf 3 = .ok (.invokevirtual 130, 3) := by decide +kernel
theorem dX10_bassOf_6 : decode cX10_bassOf 6 = .ok (.ireturn, 1) := by decide +kernel
theorem dX10_tells_0 : decode cX10_tells 0 = .ok (.aload_n 0, 1) := by decide +kernel
theorem dX10_tells_1 : decode cX10_tells 1 = .ok (.getfield 37, 3) := by decide +kernel
theorem dX10_tells_4 : decode cX10_tells 4 = .ok (.aload_n 0, 1) := by decide +kernel
theorem dX10_tells_5 : decode cX10_tells 5 = .ok (.getfield 133, 3) := by decide +kernel
theorem dX10_tells_8 : decode cX10_tells 8 = .ok (.iload_n 1, 1) := by decide +kernel
theorem dX10_tells_9 : decode cX10_tells 9 = .ok (.iastore, 1) := by decide +kernel
theorem dX10_tells_10 : decode cX10_tells 10 = .ok (.aload_n 0, 1) := by decide +kernel
theorem dX10_tells_11 : decode cX10_tells 11 = .ok (.dup, 1) := by decide +kernel
theorem dX10_tells_12 : decode cX10_tells 12 = .ok (.getfield 133, 3) := by decide +kernel
theorem dX10_tells_15 : decode cX10_tells 15 = .ok (.iconst 1, 1) := by decide +kernel
theorem dX10_tells_16 : decode cX10_tells 16 = .ok (.iadd, 1) := by decide +kernel
theorem dX10_tells_17 : decode cX10_tells 17 = .ok (.putfield 133, 3) := by decide +kernel
theorem dX10_tells_20 : decode cX10_tells 20 = .ok (.return_, 1) := by decide +kernel
theorem dX10_tellsNote_0 : decode cX10_tellsNote 0 = .ok (.iconst 0, 1) := by decide +kernel
theorem dX10_tellsNote_1 : decode cX10_tellsNote 1 = .ok (.istore_n 2, 1) := by decide +kernel
theorem dX10_tellsNote_2 : decode cX10_tellsNote 2 = .ok (.iload_n 1, 1) := by decide +kernel
theorem dX10_tellsNote_3 : decode cX10_tellsNote 3 = .ok (.istore_n 3, 1) := by decide +kernel
theorem dX10_tellsNote_4 : decode cX10_tellsNote 4 = .ok (.iload_n 3, 1) := by decide +kernel
theorem dX10_tellsNote_5 : decode cX10_tellsNote 5 = .ok (.iconst (-1), 1) := by decide +kernel
theorem dX10_tellsNote_6 : decode cX10_tellsNote 6 = .ok (.if_icmp .ge 12, 3) := by decide +kernel
theorem dX10_tellsNote_9 : decode cX10_tellsNote 9 = .ok (.iinc 3 7, 3) := by decide +kernel
theorem dX10_tellsNote_12 : decode cX10_tellsNote 12 = .ok (.iinc 2 (-1), 3) := by decide +kernel
theorem dX10_tellsNote_15 : decode cX10_tellsNote 15 = .ok (.goto (-11), 3) := by decide +kernel
theorem dX10_tellsNote_18 : decode cX10_tellsNote 18 = .ok (.iload_n 3, 1) := by decide +kernel
theorem dX10_tellsNote_19 : decode cX10_tellsNote 19 = .ok (.iconst 5, 1) := by decide +kernel
theorem dX10_tellsNote_20 : decode cX10_tellsNote 20 = .ok (.if_icmp .le 12, 3) := by decide +kernel
theorem dX10_tellsNote_23 : decode cX10_tellsNote 23 = .ok (.iinc 3 (-7), 3) := by decide +kernel
theorem dX10_tellsNote_26 : decode cX10_tellsNote 26 = .ok (.iinc 2 1, 3) := by decide +kernel
theorem dX10_tellsNote_29 : decode cX10_tellsNote 29 = .ok (.goto (-11), 3) := by decide +kernel
theorem dX10_tellsNote_32 : decode cX10_tellsNote 32 = .ok (.aload_n 0, 1) := by decide +kernel
theorem dX10_tellsNote_33 : decode cX10_tellsNote 33 = .ok (.aload_n 0, 1) := by decide +kernel
theorem dX10_tellsNote_34 : decode cX10_tellsNote 34 = .ok (.getfield 27, 3) := by decide +kernel
theorem dX10_tellsNote_37 : decode cX10_tellsNote 37 = .ok (.iload_n 3, 1) := by decide +kernel
theorem dX10_tellsNote_38 : decode cX10_tellsNote 38 = .ok (.iconst 1, 1) := by decide +kernel
theorem dX10_tellsNote_39 : decode cX10_tellsNote 39 = .ok (.iadd, 1) := by decide +kernel
theorem dX10_tellsNote_40 : decode cX10_tellsNote 40 = .ok (.caload, 1) := by decide +kernel
theorem dX10_tellsNote_41 : decode cX10_tellsNote 41 = .ok (.invokevirtual 136, 3) := by decide +kernel
theorem dX10_tellsNote_44 : decode cX10_tellsNote 44 = .ok (.iconst 0, 1) := by decide +kernel
theorem dX10_tellsNote_45 : decode cX10_tellsNote 45 = .ok (.istore 4, 2) := by decide +kernel
theorem dX10_tellsNote_47 : decode cX10_tellsNote 47 = .ok (.iload 4, 2) := by decide +kernel
theorem dX10_tellsNote_49 : decode cX10_tellsNote 49 = .ok (.iload_n 2, 1) := by decide +kernel
theorem dX10_tellsNote_50 : decode cX10_tellsNote 50 = .ok (.if_icmp .lt 10, 3) := by decide +kernel
theorem dX10_tellsNote_53 : decode cX10_tellsNote 53 = .ok (.iload 4, 2) := by decide +kernel
theorem dX10_tellsNote_55 : decode cX10_tellsNote 55 = .ok (.iload_n 2, 1) := by decide +kernel
theorem dX10_tellsNote_56 : decode cX10_tellsNote 56 = .ok (.ineg, 1) := by decide +kernel
theorem dX10_tellsNote_57 : decode cX10_tellsNote 57 = .ok (.if_icmp .ge 24, 3) := by decide +kernel
theorem dX10_tellsNote_60 : decode cX10_tellsNote 60 = .ok (.aload_n 0, 1) := by decide +kernel
theorem dX10_tellsNote_61 : decode cX10_tellsNote 61 = .ok (.iload_n 2, 1) := by decide +kernel
theorem dX10_tellsNote_62 : decode cX10_tellsNote 62 = .ok (.ifCond .le 8, 3) := by decide +kernel
theorem dX10_tellsNote_65 : decode cX10_tellsNote 65 = .ok (.bipush 35, 2) := by decide +kernel
theorem dX10_tellsNote_67 : decode cX10_tellsNote 67 = .ok (.goto 5, 3) := by decide +kernel
theorem dX10_tellsNote_70 : decode cX10_tellsNote 70 = .ok (.bipush 98, 2) := by decide +kernel
theorem dX10_tellsNote_72 : decode cX10_tellsNote 72 = .ok (.invokevirtual 136, 3) := by decide +kernel
theorem dX10_tellsNote_75 : decode cX10_tellsNote 75 = .ok (.iinc 4 1, 3) := by decide +kernel
theorem dX10_tellsNote_78 : decode cX10_tellsNote 78 = .ok (.goto (-31), 3) := by decide +kernel
theorem dX10_tellsNote_81 : decode cX10_tellsNote 81 = .ok (.return_, 1) := by decide +kernel
theorem dX10_names_0 : decode cX10_names 0 = .ok (.aload_n 0, 1) := by decide +kernel
theorem dX10_names_1 : decode cX10_names 1 = .ok (.iconst 0, 1) := by decide +kernel
theorem dX10_names_2 : decode cX10_names 2 = .ok (.putfield 133, 3) := by decide +kernel
theorem dX10_names_5 : decode cX10_names 5 = .ok (.aload_n 0, 1) := by decide +kernel
theorem dX10_names_6 : decode cX10_names 6 = .ok (.aload_n 0, 1) := by decide +kernel
theorem dX10_names_7 : decode cX10_names 7 = .ok (.getfield 7, 3) := by decide +kernel
theorem dX10_names_10 : decode cX10_names 10 = .ok (.iload_n 1, 1) := by decide +kernel
theorem dX10_names_11 : decode cX10_names 11 = .ok (.invokestatic 94, 3) := by decide +kernel
theorem dX10_names_14 : decode cX10_names 14 = .ok (.iconst 2, 1) := by decide +kernel
theorem dX10_names_15 : decode cX10_names 15 = .ok (.iadd, 1) := by decide +kernel
theorem dX10_names_16 : decode cX10_names 16 = .ok (.iaload, 1) := by decide +kernel
theorem dX10_names_17 : decode cX10_names 17 = .ok (.invokevirtual 140, 3) := by decide +kernel
theorem dX10_names_20 : decode cX10_names 20 = .ok (.iconst 0, 1) := by decide +kernel
theorem dX10_names_21 : decode cX10_names 21 = .ok (.istore_n 2, 1) := by decide +kernel
theorem dX10_names_22 : decode cX10_names 22 = .ok (.iconst 0, 1) := by decide +kernel
theorem dX10_names_23 : decode cX10_names 23 = .ok (.istore_n 3, 1) := by decide +kernel
theorem dX10_names_24 : decode cX10_names 24 = .ok (.iload_n 3, 1) := by decide +kernel
theorem dX10_names_25 : decode cX10_names 25 = .ok (.aload_n 0, 1) := by decide +kernel
theorem dX10_names_26 : decode cX10_names 26 = .ok (.getfield 31, 3) := by decide +kernel
theorem dX10_names_29 : decode cX10_names 29 = .ok (.arraylength, 1) := by decide +kernel
theorem dX10_names_30 : decode cX10_names 30 = .ok (.if_icmp .ge 51, 3) := by decide +kernel
theorem dX10_names_33 : decode cX10_names 33 = .ok (.aload_n 0, 1) := by decide +kernel
theorem dX10_names_34 : decode cX10_names 34 = .ok (.getfield 31, 3) := by decide +kernel
theorem dX10_names_37 : decode cX10_names 37 = .ok (.iload_n 3, 1) := by decide +kernel
theorem dX10_names_38 : decode cX10_names 38 = .ok (.caload, 1) := by decide +kernel
theorem dX10_names_39 : decode cX10_names 39 = .ok (.bipush 59, 2) := by decide +kernel
theorem dX10_names_41 : decode cX10_names 41 = .ok (.if_icmp .ne 9, 3) := by decide +kernel
theorem dX10_names_44 : decode cX10_names 44 = .ok (.iinc 2 1, 3) := by decide +kernel
theorem dX10_names_47 : decode cX10_names 47 = .ok (.goto 28, 3) := by decide +kernel
theorem dX10_names_50 : decode cX10_names 50 = .ok (.iload_n 2, 1) := by decide +kernel
theorem dX10_names_51 : decode cX10_names 51 = .ok (.aload_n 0, 1) := by decide +kernel
theorem dX10_names_52 : decode cX10_names 52 = .ok (.getfield 7, 3) := by decide +kernel
theorem dX10_names_55 : decode cX10_names 55 = .ok (.iload_n 1, 1) := by decide +kernel
theorem dX10_names_56 : decode cX10_names 56 = .ok (.invokestatic 94, 3) := by decide +kernel
theorem dX10_names_59 : decode cX10_names 59 = .ok (.iconst 3, 1) := by decide +kernel
theorem dX10_names_60 : decode cX10_names 60 = .ok (.iadd, 1) := by decide +kernel
theorem dX10_names_61 : decode cX10_names 61 = .ok (.iaload, 1) := by decide +kernel
theorem dX10_names_62 : decode cX10_names 62 = .ok (.if_icmp .ne 13, 3) := by decide +kernel
theorem dX10_names_65 : decode cX10_names 65 = .ok (.aload_n 0, 1) := by decide +kernel
theorem dX10_names_66 : decode cX10_names 66 = .ok (.aload_n 0, 1) := by decide +kernel
theorem dX10_names_67 : decode cX10_names 67 = .ok (.getfield 31, 3) := by decide +kernel
theorem dX10_names_70 : decode cX10_names 70 = .ok (.iload_n 3, 1) := by decide +kernel
theorem dX10_names_71 : decode cX10_names 71 = .ok (.caload, 1) := by decide +kernel
theorem dX10_names_72 : decode cX10_names 72 = .ok (.invokevirtual 136, 3) := by decide +kernel
theorem dX10_names_75 : decode cX10_names 75 = .ok (.iinc 3 1, 3) := by decide +kernel
theorem dX10_names_78 : decode cX10_names 78 = .ok (.goto (-54), 3) := by decide +kernel
theorem dX10_names_81 : decode cX10_names 81 = .ok (.aload_n 0, 1) := by decide +kernel
theorem dX10_names_82 : decode cX10_names 82 = .ok (.getfield 7, 3) := by decide +kernel
theorem dX10_names_85 : decode cX10_names 85 = .ok (.iload_n 1, 1) := by decide +kernel
theorem dX10_names_86 : decode cX10_names 86 = .ok (.invokestatic 94, 3) := by decide +kernel
theorem dX10_names_89 : decode cX10_names 89 = .ok (.iconst 4, 1) := by decide +kernel
theorem dX10_names_90 : decode cX10_names 90 = .ok (.iadd, 1) := by decide +kernel
theorem dX10_names_91 : decode cX10_names 91 = .ok (.iaload, 1) := by decide +kernel
theorem dX10_names_92 : decode cX10_names 92 = .ok (.bipush 100, 2) := by decide +kernel
theorem dX10_names_94 : decode cX10_names 94 = .ok (.if_icmp .eq 24, 3) := by decide +kernel
theorem dX10_names_97 : decode cX10_names 97 = .ok (.aload_n 0, 1) := by decide +kernel
theorem dX10_names_98 : decode cX10_names 98 = .ok (.bipush 47, 2) := by decide +kernel
theorem dX10_names_100 : decode cX10_names 100 = .ok (.invokevirtual 136, 3) := by decide +kernel
theorem dX10_names_103 : decode cX10_names 103 = .ok (.aload_n 0, 1) := by decide +kernel
theorem dX10_names_104 : decode cX10_names 104 = .ok (.aload_n 0, 1) := by decide +kernel
theorem dX10_names_105 : decode cX10_names 105 = .ok (.getfield 7, 3) := by decide +kernel
theorem dX10_names_108 : decode cX10_names 108 = .ok (.iload_n 1, 1) := by decide +kernel
theorem dX10_names_109 : decode cX10_names 109 = .ok (.invokestatic 94, 3) := by decide +kernel
theorem dX10_names_112 : decode cX10_names 112 = .ok (.iconst 4, 1) := by decide +kernel
theorem dX10_names_113 : decode cX10_names 113 = .ok (.iadd, 1) := by decide +kernel
theorem dX10_names_114 : decode cX10_names 114 = .ok (.iaload, 1) := by decide +kernel
theorem dX10_names_115 : decode cX10_names 115 = .ok (.invokevirtual 140, 3) := by decide +kernel
theorem dX10_names_118 : decode cX10_names 118 = .ok (.return_, 1) := by decide +kernel
theorem dX10_nameChar_0 : decode cX10_nameChar 0 = .ok (.aload_n 0, 1) := by decide +kernel
theorem dX10_nameChar_1 : decode cX10_nameChar 1 = .ok (.iconst 0, 1) := by decide +kernel
theorem dX10_nameChar_2 : decode cX10_nameChar 2 = .ok (.putfield 46, 3) := by decide +kernel
theorem dX10_nameChar_5 : decode cX10_nameChar 5 = .ok (.aload_n 0, 1) := by decide +kernel
theorem dX10_nameChar_6 : decode cX10_nameChar 6 = .ok (.iload_n 1, 1) := by decide +kernel
theorem dX10_nameChar_7 : decode cX10_nameChar 7 = .ok (.invokevirtual 127, 3) := by decide +kernel
theorem dX10_nameChar_10 : decode cX10_nameChar 10 = .ok (.ifCond .eq 7, 3) := by decide +kernel
theorem dX10_nameChar_13 : decode cX10_nameChar 13 = .ok (.iload_n 2, 1) := by decide +kernel
theorem dX10_nameChar_14 : decode cX10_nameChar 14 = .ok (.ifCond .ge 9, 3) := by decide +kernel
theorem dX10_nameChar_17 : decode cX10_nameChar 17 = .ok (.aload_n 0, 1) := by decide +kernel
theorem dX10_nameChar_18 : decode cX10_nameChar 18 = .ok (.iconst 1, 1) := by decide +kernel
theorem dX10_nameChar_19 : decode cX10_nameChar 19 = .ok (.invokevirtual 101, 3) := by decide +kernel
theorem dX10_nameChar_22 : decode cX10_nameChar 22 = .ok (.ireturn, 1) := by decide +kernel
theorem dX10_nameChar_23 : decode cX10_nameChar 23 = .ok (.aload_n 0, 1) := by decide +kernel
theorem dX10_nameChar_24 : decode cX10_nameChar 24 = .ok (.iload_n 1, 1) := by decide +kernel
theorem dX10_nameChar_25 : decode cX10_nameChar 25 = .ok (.invokevirtual 143, 3) := by decide +kernel
theorem dX10_nameChar_28 : decode cX10_nameChar 28 = .ok (.iload_n 2, 1) := by decide +kernel
theorem dX10_nameChar_29 : decode cX10_nameChar 29 = .ok (.aload_n 0, 1) := by decide +kernel
theorem dX10_nameChar_30 : decode cX10_nameChar 30 = .ok (.getfield 133, 3) := by decide +kernel
theorem dX10_nameChar_33 : decode cX10_nameChar 33 = .ok (.if_icmp .ge 12, 3) := by decide +kernel
theorem dX10_nameChar_36 : decode cX10_nameChar 36 = .ok (.aload_n 0, 1) := by decide +kernel
theorem dX10_nameChar_37 : decode cX10_nameChar 37 = .ok (.getfield 37, 3) := by decide +kernel
theorem dX10_nameChar_40 : decode cX10_nameChar 40 = .ok (.iload_n 2, 1) := by decide +kernel
theorem dX10_nameChar_41 : decode cX10_nameChar 41 = .ok (.iaload, 1) := by decide +kernel
theorem dX10_nameChar_42 : decode cX10_nameChar 42 = .ok (.goto 4, 3) := by decide +kernel
theorem dX10_nameChar_45 : decode cX10_nameChar 45 = .ok (.iconst (-1), 1) := by decide +kernel
theorem dX10_nameChar_46 : decode cX10_nameChar 46 = .ok (.ireturn, 1) := by decide +kernel
theorem dX10_isText_0 : decode cX10_isText 0 = .ok (.aload_n 0, 1) := by decide +kernel
theorem dX10_isText_1 : decode cX10_isText 1 = .ok (.iconst 0, 1) := by decide +kernel
theorem dX10_isText_2 : decode cX10_isText 2 = .ok (.putfield 59, 3) := by decide +kernel
theorem dX10_isText_5 : decode cX10_isText 5 = .ok (.aload_n 0, 1) := by decide +kernel
theorem dX10_isText_6 : decode cX10_isText 6 = .ok (.iconst (-1), 1) := by decide +kernel
theorem dX10_isText_7 : decode cX10_isText 7 = .ok (.invokevirtual 90, 3) := by decide +kernel
theorem dX10_isText_10 : decode cX10_isText 10 = .ok (.ireturn, 1) := by decide +kernel
theorem dX10_puts_0 : decode cX10_puts 0 = .ok (.aload_n 0, 1) := by decide +kernel
theorem dX10_puts_1 : decode cX10_puts 1 = .ok (.getfield 7, 3) := by decide +kernel
theorem dX10_puts_4 : decode cX10_puts 4 = .ok (.iload_n 1, 1) := by decide +kernel
theorem dX10_puts_5 : decode cX10_puts 5 = .ok (.iconst 2, 1) := by decide +kernel
theorem dX10_puts_6 : decode cX10_puts 6 = .ok (.iadd, 1) := by decide +kernel
theorem dX10_puts_7 : decode cX10_puts 7 = .ok (.aload_n 0, 1) := by decide +kernel
theorem dX10_puts_8 : decode cX10_puts 8 = .ok (.getfield 78, 3) := by decide +kernel
theorem dX10_puts_11 : decode cX10_puts 11 = .ok (.iastore, 1) := by decide +kernel
theorem dX10_puts_12 : decode cX10_puts 12 = .ok (.aload_n 0, 1) := by decide +kernel
theorem dX10_puts_13 : decode cX10_puts 13 = .ok (.getfield 7, 3) := by decide +kernel
theorem dX10_puts_16 : decode cX10_puts 16 = .ok (.iload_n 1, 1) := by decide +kernel
theorem dX10_puts_17 : decode cX10_puts 17 = .ok (.iconst 3, 1) := by decide +kernel
theorem dX10_puts_18 : decode cX10_puts 18 = .ok (.iadd, 1) := by decide +kernel
theorem dX10_puts_19 : decode cX10_puts 19 = .ok (.aload_n 0, 1) := by decide +kernel
theorem dX10_puts_20 : decode cX10_puts 20 = .ok (.getfield 87, 3) := by decide +kernel
theorem dX10_puts_23 : decode cX10_puts 23 = .ok (.iastore, 1) := by decide +kernel
theorem dX10_puts_24 : decode cX10_puts 24 = .ok (.aload_n 0, 1) := by decide +kernel
theorem dX10_puts_25 : decode cX10_puts 25 = .ok (.getfield 7, 3) := by decide +kernel
theorem dX10_puts_28 : decode cX10_puts 28 = .ok (.iload_n 1, 1) := by decide +kernel
theorem dX10_puts_29 : decode cX10_puts 29 = .ok (.iconst 4, 1) := by decide +kernel
theorem dX10_puts_30 : decode cX10_puts 30 = .ok (.iadd, 1) := by decide +kernel
theorem dX10_puts_31 : decode cX10_puts 31 = .ok (.aload_n 0, 1) := by decide +kernel
theorem dX10_puts_32 : decode cX10_puts 32 = .ok (.getfield 81, 3) := by decide +kernel
theorem dX10_puts_35 : decode cX10_puts 35 = .ok (.iastore, 1) := by decide +kernel
theorem dX10_puts_36 : decode cX10_puts 36 = .ok (.aload_n 0, 1) := by decide +kernel
theorem dX10_puts_37 : decode cX10_puts 37 = .ok (.iconst 0, 1) := by decide +kernel
theorem dX10_puts_38 : decode cX10_puts 38 = .ok (.putfield 56, 3) := by decide +kernel
theorem dX10_puts_41 : decode cX10_puts 41 = .ok (.return_, 1) := by decide +kernel
theorem dX10_setChord_0 : decode cX10_setChord 0 = .ok (.aload_n 0, 1) := by decide +kernel
theorem dX10_setChord_1 : decode cX10_setChord 1 = .ok (.iconst 0, 1) := by decide +kernel
theorem dX10_setChord_2 : decode cX10_setChord 2 = .ok (.putfield 46, 3) := by decide +kernel
theorem dX10_setChord_5 : decode cX10_setChord 5 = .ok (.aload_n 0, 1) := by decide +kernel
theorem dX10_setChord_6 : decode cX10_setChord 6 = .ok (.iload_n 1, 1) := by decide +kernel
theorem dX10_setChord_7 : decode cX10_setChord 7 = .ok (.invokevirtual 127, 3) := by decide +kernel
theorem dX10_setChord_10 : decode cX10_setChord 10 = .ok (.ifCond .ne 9, 3) := by decide +kernel
theorem dX10_setChord_13 : decode cX10_setChord 13 = .ok (.aload_n 0, 1) := by decide +kernel
theorem dX10_setChord_14 : decode cX10_setChord 14 = .ok (.iconst 1, 1) := by decide +kernel
theorem dX10_setChord_15 : decode cX10_setChord 15 = .ok (.invokevirtual 101, 3) := by decide +kernel
theorem dX10_setChord_18 : decode cX10_setChord 18 = .ok (.ireturn, 1) := by decide +kernel
theorem dX10_setChord_19 : decode cX10_setChord 19 = .ok (.aload_n 0, 1) := by decide +kernel
theorem dX10_setChord_20 : decode cX10_setChord 20 = .ok (.invokevirtual 146, 3) := by decide +kernel
theorem dX10_setChord_23 : decode cX10_setChord 23 = .ok (.ifCond .ne 10, 3) := by decide +kernel
theorem dX10_setChord_26 : decode cX10_setChord 26 = .ok (.iconst (-1), 1) := by decide +kernel
theorem dX10_setChord_27 : decode cX10_setChord 27 = .ok (.aload_n 0, 1) := by decide +kernel
theorem dX10_setChord_28 : decode cX10_setChord 28 = .ok (.getfield 59, 3) := by decide +kernel
theorem dX10_setChord_31 : decode cX10_setChord 31 = .ok (.isub, 1) := by decide +kernel
theorem dX10_setChord_32 : decode cX10_setChord 32 = .ok (.ireturn, 1) := by decide +kernel
theorem dX10_setChord_33 : decode cX10_setChord 33 = .ok (.aload_n 0, 1) := by decide +kernel
theorem dX10_setChord_34 : decode cX10_setChord 34 = .ok (.invokevirtual 107, 3) := by decide +kernel
theorem dX10_setChord_37 : decode cX10_setChord 37 = .ok (.aload_n 0, 1) := by decide +kernel
theorem dX10_setChord_38 : decode cX10_setChord 38 = .ok (.iload_n 1, 1) := by decide +kernel
theorem dX10_setChord_39 : decode cX10_setChord 39 = .ok (.invokestatic 94, 3) := by decide +kernel
theorem dX10_setChord_42 : decode cX10_setChord 42 = .ok (.invokevirtual 149, 3) := by decide +kernel
theorem dX10_setChord_45 : decode cX10_setChord 45 = .ok (.iconst 0, 1) := by decide +kernel
theorem dX10_setChord_46 : decode cX10_setChord 46 = .ok (.ireturn, 1) := by decide +kernel
theorem dX10_comesTo_0 : decode cX10_comesTo 0 = .ok (.iconst 0, 1) := by decide +kernel
theorem dX10_comesTo_1 : decode cX10_comesTo 1 = .ok (.istore_n 3, 1) := by decide +kernel
theorem dX10_comesTo_2 : decode cX10_comesTo 2 = .ok (.iconst 0, 1) := by decide +kernel
theorem dX10_comesTo_3 : decode cX10_comesTo 3 = .ok (.istore 4, 2) := by decide +kernel
theorem dX10_comesTo_5 : decode cX10_comesTo 5 = .ok (.iload 4, 2) := by decide +kernel
theorem dX10_comesTo_7 : decode cX10_comesTo 7 = .ok (.aload_n 0, 1) := by decide +kernel
theorem dX10_comesTo_8 : decode cX10_comesTo 8 = .ok (.getfield 7, 3) := by decide +kernel
theorem dX10_comesTo_11 : decode cX10_comesTo 11 = .ok (.iconst 1, 1) := by decide +kernel
theorem dX10_comesTo_12 : decode cX10_comesTo 12 = .ok (.iaload, 1) := by decide +kernel
theorem dX10_comesTo_13 : decode cX10_comesTo 13 = .ok (.if_icmp .ge 59, 3) := by decide +kernel
theorem dX10_comesTo_16 : decode cX10_comesTo 16 = .ok (.aload_n 0, 1) := by decide +kernel
theorem dX10_comesTo_17 : decode cX10_comesTo 17 = .ok (.getfield 7, 3) := by decide +kernel
theorem dX10_comesTo_20 : decode cX10_comesTo 20 = .ok (.iload 4, 2) := by decide +kernel
theorem dX10_comesTo_22 : decode cX10_comesTo 22 = .ok (.invokestatic 94, 3) := by decide +kernel
theorem dX10_comesTo_25 : decode cX10_comesTo 25 = .ok (.iconst 0, 1) := by decide +kernel
theorem dX10_comesTo_26 : decode cX10_comesTo 26 = .ok (.iadd, 1) := by decide +kernel
theorem dX10_comesTo_27 : decode cX10_comesTo 27 = .ok (.iaload, 1) := by decide +kernel
theorem dX10_comesTo_28 : decode cX10_comesTo 28 = .ok (.istore 5, 2) := by decide +kernel
theorem dX10_comesTo_30 : decode cX10_comesTo 30 = .ok (.iload_n 3, 1) := by decide +kernel
theorem dX10_comesTo_31 : decode cX10_comesTo 31 = .ok (.iload 5, 2) := by decide +kernel
theorem dX10_comesTo_33 : decode cX10_comesTo 33 = .ok (.iload_n 1, 1) := by decide +kernel
theorem dX10_comesTo_34 : decode cX10_comesTo 34 = .ok (.if_icmp .lt 25, 3) := by decide +kernel
theorem dX10_comesTo_37 : decode cX10_comesTo 37 = .ok (.iload 5, 2) := by decide +kernel
theorem dX10_comesTo_39 : decode cX10_comesTo 39 = .ok (.iload_n 1, 1) := by decide +kernel
theorem dX10_comesTo_40 : decode cX10_comesTo 40 = .ok (.if_icmp .ne 23, 3) := by decide +kernel
theorem dX10_comesTo_43 : decode cX10_comesTo 43 = .ok (.aload_n 0, 1) := by decide +kernel
theorem dX10_comesTo_44 : decode cX10_comesTo 44 = .ok (.getfield 7, 3) := by decide +kernel
theorem dX10_comesTo_47 : decode cX10_comesTo 47 = .ok (.iload 4, 2) := by decide +kernel
theorem dX10_comesTo_49 : decode cX10_comesTo 49 = .ok (.invokestatic 94, 3) := by decide +kernel
theorem dX10_comesTo_52 : decode cX10_comesTo 52 = .ok (.iconst 1, 1) := by decide +kernel
theorem dX10_comesTo_53 : decode cX10_comesTo 53 = .ok (.iadd, 1) := by decide +kernel
theorem dX10_comesTo_54 : decode cX10_comesTo 54 = .ok (.iaload, 1) := by decide +kernel
theorem dX10_comesTo_55 : decode cX10_comesTo 55 = .ok (.iload_n 2, 1) := by decide +kernel
theorem dX10_comesTo_56 : decode cX10_comesTo 56 = .ok (.if_icmp .gt 7, 3) := by decide +kernel
theorem dX10_comesTo_59 : decode cX10_comesTo 59 = .ok (.iconst 1, 1) := by decide +kernel
theorem dX10_comesTo_60 : decode cX10_comesTo 60 = .ok (.goto 4, 3) := by decide +kernel
theorem dX10_comesTo_63 : decode cX10_comesTo 63 = .ok (.iconst 0, 1) := by decide +kernel
theorem dX10_comesTo_64 : decode cX10_comesTo 64 = .ok (.iadd, 1) := by decide +kernel
theorem dX10_comesTo_65 : decode cX10_comesTo 65 = .ok (.istore_n 3, 1) := by decide +kernel
theorem dX10_comesTo_66 : decode cX10_comesTo 66 = .ok (.iinc 4 1, 3) := by decide +kernel
theorem dX10_comesTo_69 : decode cX10_comesTo 69 = .ok (.goto (-64), 3) := by decide +kernel
theorem dX10_comesTo_72 : decode cX10_comesTo 72 = .ok (.iload_n 3, 1) := by decide +kernel
theorem dX10_comesTo_73 : decode cX10_comesTo 73 = .ok (.ireturn, 1) := by decide +kernel
theorem dX10_opens_0 : decode cX10_opens 0 = .ok (.aload_n 0, 1) := by decide +kernel
theorem dX10_opens_1 : decode cX10_opens 1 = .ok (.getfield 7, 3) := by decide +kernel
theorem dX10_opens_4 : decode cX10_opens 4 = .ok (.iconst 1, 1) := by decide +kernel
theorem dX10_opens_5 : decode cX10_opens 5 = .ok (.iaload, 1) := by decide +kernel
theorem dX10_opens_6 : decode cX10_opens 6 = .ok (.invokestatic 94, 3) := by decide +kernel
theorem dX10_opens_9 : decode cX10_opens 9 = .ok (.iconst 5, 1) := by decide +kernel
theorem dX10_opens_10 : decode cX10_opens 10 = .ok (.iadd, 1) := by decide +kernel
theorem dX10_opens_11 : decode cX10_opens 11 = .ok (.iconst 1, 1) := by decide +kernel
theorem dX10_opens_12 : decode cX10_opens 12 = .ok (.isub, 1) := by decide +kernel
theorem dX10_opens_13 : decode cX10_opens 13 = .ok (.istore_n 2, 1) := by decide +kernel
theorem dX10_opens_14 : decode cX10_opens 14 = .ok (.iload_n 2, 1) := by decide +kernel
theorem dX10_opens_15 : decode cX10_opens 15 = .ok (.iload_n 1, 1) := by decide +kernel
theorem dX10_opens_16 : decode cX10_opens 16 = .ok (.invokestatic 94, 3) := by decide +kernel
theorem dX10_opens_19 : decode cX10_opens 19 = .ok (.iconst 5, 1) := by decide +kernel
theorem dX10_opens_20 : decode cX10_opens 20 = .ok (.iadd, 1) := by decide +kernel
theorem dX10_opens_21 : decode cX10_opens 21 = .ok (.if_icmp .lt 23, 3) := by decide +kernel
theorem dX10_opens_24 : decode cX10_opens 24 = .ok (.aload_n 0, 1) := by decide +kernel
theorem dX10_opens_25 : decode cX10_opens 25 = .ok (.getfield 7, 3) := by decide +kernel
theorem dX10_opens_28 : decode cX10_opens 28 = .ok (.iload_n 2, 1) := by decide +kernel
theorem dX10_opens_29 : decode cX10_opens 29 = .ok (.aload_n 0, 1) := by decide +kernel
theorem dX10_opens_30 : decode cX10_opens 30 = .ok (.getfield 7, 3) := by decide +kernel
theorem dX10_opens_33 : decode cX10_opens 33 = .ok (.iload_n 2, 1) := by decide +kernel
theorem dX10_opens_34 : decode cX10_opens 34 = .ok (.iconst 5, 1) := by decide +kernel
theorem dX10_opens_35 : decode cX10_opens 35 = .ok (.isub, 1) := by decide +kernel
theorem dX10_opens_36 : decode cX10_opens 36 = .ok (.iaload, 1) := by decide +kernel
theorem dX10_opens_37 : decode cX10_opens 37 = .ok (.iastore, 1) := by decide +kernel
theorem dX10_opens_38 : decode cX10_opens 38 = .ok (.iinc 2 (-1), 3) := by decide +kernel
theorem dX10_opens_41 : decode cX10_opens 41 = .ok (.goto (-27), 3) := by decide +kernel
theorem dX10_opens_44 : decode cX10_opens 44 = .ok (.aload_n 0, 1) := by decide +kernel
theorem dX10_opens_45 : decode cX10_opens 45 = .ok (.getfield 7, 3) := by decide +kernel
theorem dX10_opens_48 : decode cX10_opens 48 = .ok (.iconst 1, 1) := by decide +kernel
theorem dX10_opens_49 : decode cX10_opens 49 = .ok (.dup2, 1) := by decide +kernel
theorem dX10_opens_50 : decode cX10_opens 50 = .ok (.iaload, 1) := by decide +kernel
theorem dX10_opens_51 : decode cX10_opens 51 = .ok (.iconst 1, 1) := by decide +kernel
theorem dX10_opens_52 : decode cX10_opens 52 = .ok (.iadd, 1) := by decide +kernel
theorem dX10_opens_53 : decode cX10_opens 53 = .ok (.iastore, 1) := by decide +kernel
theorem dX10_opens_54 : decode cX10_opens 54 = .ok (.return_, 1) := by decide +kernel
theorem dX10_closes_0 : decode cX10_closes 0 = .ok (.aload_n 0, 1) := by decide +kernel
theorem dX10_closes_1 : decode cX10_closes 1 = .ok (.getfield 7, 3) := by decide +kernel
theorem dX10_closes_4 : decode cX10_closes 4 = .ok (.iconst 1, 1) := by decide +kernel
theorem dX10_closes_5 : decode cX10_closes 5 = .ok (.dup2, 1) := by decide +kernel
theorem dX10_closes_6 : decode cX10_closes 6 = .ok (.iaload, 1) := by decide +kernel
theorem dX10_closes_7 : decode cX10_closes 7 = .ok (.iconst 1, 1) := by decide +kernel
theorem dX10_closes_8 : decode cX10_closes 8 = .ok (.isub, 1) := by decide +kernel
theorem dX10_closes_9 : decode cX10_closes 9 = .ok (.iastore, 1) := by decide +kernel
theorem dX10_closes_10 : decode cX10_closes 10 = .ok (.iload_n 1, 1) := by decide +kernel
theorem dX10_closes_11 : decode cX10_closes 11 = .ok (.invokestatic 94, 3) := by decide +kernel
theorem dX10_closes_14 : decode cX10_closes 14 = .ok (.istore_n 2, 1) := by decide +kernel
theorem dX10_closes_15 : decode cX10_closes 15 = .ok (.iload_n 2, 1) := by decide +kernel
theorem dX10_closes_16 : decode cX10_closes 16 = .ok (.aload_n 0, 1) := by decide +kernel
theorem dX10_closes_17 : decode cX10_closes 17 = .ok (.getfield 7, 3) := by decide +kernel
theorem dX10_closes_20 : decode cX10_closes 20 = .ok (.iconst 1, 1) := by decide +kernel
theorem dX10_closes_21 : decode cX10_closes 21 = .ok (.iaload, 1) := by decide +kernel
theorem dX10_closes_22 : decode cX10_closes 22 = .ok (.invokestatic 94, 3) := by decide +kernel
theorem dX10_closes_25 : decode cX10_closes 25 = .ok (.if_icmp .ge 23, 3) := by decide +kernel
theorem dX10_closes_28 : decode cX10_closes 28 = .ok (.aload_n 0, 1) := by decide +kernel
theorem dX10_closes_29 : decode cX10_closes 29 = .ok (.getfield 7, 3) := by decide +kernel
theorem dX10_closes_32 : decode cX10_closes 32 = .ok (.iload_n 2, 1) := by decide +kernel
theorem dX10_closes_33 : decode cX10_closes 33 = .ok (.aload_n 0, 1) := by decide +kernel
theorem dX10_closes_34 : decode cX10_closes 34 = .ok (.getfield 7, 3) := by decide +kernel
theorem dX10_closes_37 : decode cX10_closes 37 = .ok (.iload_n 2, 1) := by decide +kernel
theorem dX10_closes_38 : decode cX10_closes 38 = .ok (.iconst 5, 1) := by decide +kernel
theorem dX10_closes_39 : decode cX10_closes 39 = .ok (.iadd, 1) := by decide +kernel
theorem dX10_closes_40 : decode cX10_closes 40 = .ok (.iaload, 1) := by decide +kernel
theorem dX10_closes_41 : decode cX10_closes 41 = .ok (.iastore, 1) := by decide +kernel
theorem dX10_closes_42 : decode cX10_closes 42 = .ok (.iinc 2 1, 3) := by decide +kernel
theorem dX10_closes_45 : decode cX10_closes 45 = .ok (.goto (-30), 3) := by decide +kernel
theorem dX10_closes_48 : decode cX10_closes 48 = .ok (.iconst 0, 1) := by decide +kernel
theorem dX10_closes_49 : decode cX10_closes 49 = .ok (.istore_n 2, 1) := by decide +kernel
theorem dX10_closes_50 : decode cX10_closes 50 = .ok (.iload_n 2, 1) := by decide +kernel
theorem dX10_closes_51 : decode cX10_closes 51 = .ok (.iconst 5, 1) := by decide +kernel
theorem dX10_closes_52 : decode cX10_closes 52 = .ok (.if_icmp .ge 26, 3) := by decide +kernel
theorem dX10_closes_55 : decode cX10_closes 55 = .ok (.aload_n 0, 1) := by decide +kernel
theorem dX10_closes_56 : decode cX10_closes 56 = .ok (.getfield 7, 3) := by decide +kernel
theorem dX10_closes_59 : decode cX10_closes 59 = .ok (.aload_n 0, 1) := by decide +kernel
theorem dX10_closes_60 : decode cX10_closes 60 = .ok (.getfield 7, 3) := by decide +kernel
theorem dX10_closes_63 : decode cX10_closes 63 = .ok (.iconst 1, 1) := by decide +kernel
theorem dX10_closes_64 : decode cX10_closes 64 = .ok (.iaload, 1) := by decide +kernel
theorem dX10_closes_65 : decode cX10_closes 65 = .ok (.invokestatic 94, 3) := by decide +kernel
theorem dX10_closes_68 : decode cX10_closes 68 = .ok (.iload_n 2, 1) := by decide +kernel
theorem dX10_closes_69 : decode cX10_closes 69 = .ok (.iadd, 1) := by decide +kernel
theorem dX10_closes_70 : decode cX10_closes 70 = .ok (.iconst 0, 1) := by decide +kernel
theorem dX10_closes_71 : decode cX10_closes 71 = .ok (.iastore, 1) := by decide +kernel
theorem dX10_closes_72 : decode cX10_closes 72 = .ok (.iinc 2 1, 3) := by decide +kernel
theorem dX10_closes_75 : decode cX10_closes 75 = .ok (.goto (-25), 3) := by decide +kernel
theorem dX10_closes_78 : decode cX10_closes 78 = .ok (.return_, 1) := by decide +kernel
theorem dX10_addChord_0 : decode cX10_addChord 0 = .ok (.aload_n 0, 1) := by decide +kernel
theorem dX10_addChord_1 : decode cX10_addChord 1 = .ok (.iconst 0, 1) := by decide +kernel
theorem dX10_addChord_2 : decode cX10_addChord 2 = .ok (.putfield 46, 3) := by decide +kernel
theorem dX10_addChord_5 : decode cX10_addChord 5 = .ok (.aload_n 0, 1) := by decide +kernel
theorem dX10_addChord_6 : decode cX10_addChord 6 = .ok (.iload_n 1, 1) := by decide +kernel
theorem dX10_addChord_7 : decode cX10_addChord 7 = .ok (.invokevirtual 117, 3) := by decide +kernel
theorem dX10_addChord_10 : decode cX10_addChord 10 = .ok (.ifCond .eq 16, 3) := by decide +kernel
theorem dX10_addChord_13 : decode cX10_addChord 13 = .ok (.iload_n 2, 1) := by decide +kernel
theorem dX10_addChord_14 : decode cX10_addChord 14 = .ok (.iconst 0, 1) := by decide +kernel
theorem dX10_addChord_15 : decode cX10_addChord 15 = .ok (.aload_n 0, 1) := by decide +kernel
theorem dX10_addChord_16 : decode cX10_addChord 16 = .ok (.iload_n 1, 1) := by decide +kernel
theorem dX10_addChord_17 : decode cX10_addChord 17 = .ok (.invokevirtual 120, 3) := by decide +kernel
theorem dX10_addChord_20 : decode cX10_addChord 20 = .ok (.invokestatic 97, 3) := by decide +kernel
theorem dX10_addChord_23 : decode cX10_addChord 23 = .ok (.ifCond .ne 9, 3) := by decide +kernel
theorem dX10_addChord_26 : decode cX10_addChord 26 = .ok (.aload_n 0, 1) := by decide +kernel
theorem dX10_addChord_27 : decode cX10_addChord 27 = .ok (.iconst 1, 1) := by decide +kernel
theorem dX10_addChord_28 : decode cX10_addChord 28 = .ok (.invokevirtual 101, 3) := by decide +kernel
theorem dX10_addChord_31 : decode cX10_addChord 31 = .ok (.ireturn, 1) := by decide +kernel
theorem dX10_addChord_32 : decode cX10_addChord 32 = .ok (.aload_n 0, 1) := by decide +kernel
theorem dX10_addChord_33 : decode cX10_addChord 33 = .ok (.getfield 7, 3) := by decide +kernel
theorem dX10_addChord_36 : decode cX10_addChord 36 = .ok (.iconst 1, 1) := by decide +kernel
theorem dX10_addChord_37 : decode cX10_addChord 37 = .ok (.iaload, 1) := by decide +kernel
theorem dX10_addChord_38 : decode cX10_addChord 38 = .ok (.bipush 40, 2) := by decide +kernel
theorem dX10_addChord_40 : decode cX10_addChord 40 = .ok (.if_icmp .ne 9, 3) := by decide +kernel
theorem dX10_addChord_43 : decode cX10_addChord 43 = .ok (.aload_n 0, 1) := by decide +kernel
theorem dX10_addChord_44 : decode cX10_addChord 44 = .ok (.iconst 2, 1) := by decide +kernel
theorem dX10_addChord_45 : decode cX10_addChord 45 = .ok (.invokevirtual 101, 3) := by decide +kernel
theorem dX10_addChord_48 : decode cX10_addChord 48 = .ok (.ireturn, 1) := by decide +kernel
theorem dX10_addChord_49 : decode cX10_addChord 49 = .ok (.aload_n 0, 1) := by decide +kernel
theorem dX10_addChord_50 : decode cX10_addChord 50 = .ok (.invokevirtual 146, 3) := by decide +kernel
theorem dX10_addChord_53 : decode cX10_addChord 53 = .ok (.ifCond .ne 10, 3) := by decide +kernel
theorem dX10_addChord_56 : decode cX10_addChord 56 = .ok (.iconst (-1), 1) := by decide +kernel
theorem dX10_addChord_57 : decode cX10_addChord 57 = .ok (.aload_n 0, 1) := by decide +kernel
theorem dX10_addChord_58 : decode cX10_addChord 58 = .ok (.getfield 59, 3) := by decide +kernel
theorem dX10_addChord_61 : decode cX10_addChord 61 = .ok (.isub, 1) := by decide +kernel
theorem dX10_addChord_62 : decode cX10_addChord 62 = .ok (.ireturn, 1) := by decide +kernel
theorem dX10_addChord_63 : decode cX10_addChord 63 = .ok (.aload_n 0, 1) := by decide +kernel
theorem dX10_addChord_64 : decode cX10_addChord 64 = .ok (.invokevirtual 107, 3) := by decide +kernel
theorem dX10_addChord_67 : decode cX10_addChord 67 = .ok (.aload_n 0, 1) := by decide +kernel
theorem dX10_addChord_68 : decode cX10_addChord 68 = .ok (.iload_n 1, 1) := by decide +kernel
theorem dX10_addChord_69 : decode cX10_addChord 69 = .ok (.iload_n 2, 1) := by decide +kernel
theorem dX10_addChord_70 : decode cX10_addChord 70 = .ok (.invokevirtual 152, 3) := by decide +kernel
theorem dX10_addChord_73 : decode cX10_addChord 73 = .ok (.istore_n 3, 1) := by decide +kernel
theorem dX10_addChord_74 : decode cX10_addChord 74 = .ok (.aload_n 0, 1) := by decide +kernel
theorem dX10_addChord_75 : decode cX10_addChord 75 = .ok (.iload_n 3, 1) := by decide +kernel
theorem dX10_addChord_76 : decode cX10_addChord 76 = .ok (.invokevirtual 155, 3) := by decide +kernel
theorem dX10_addChord_79 : decode cX10_addChord 79 = .ok (.aload_n 0, 1) := by decide +kernel
theorem dX10_addChord_80 : decode cX10_addChord 80 = .ok (.getfield 7, 3) := by decide +kernel
theorem dX10_addChord_83 : decode cX10_addChord 83 = .ok (.iload_n 3, 1) := by decide +kernel
theorem dX10_addChord_84 : decode cX10_addChord 84 = .ok (.invokestatic 94, 3) := by decide +kernel
theorem dX10_addChord_87 : decode cX10_addChord 87 = .ok (.iconst 0, 1) := by decide +kernel
theorem dX10_addChord_88 : decode cX10_addChord 88 = .ok (.iadd, 1) := by decide +kernel
theorem dX10_addChord_89 : decode cX10_addChord 89 = .ok (.iload_n 1, 1) := by decide +kernel
theorem dX10_addChord_90 : decode cX10_addChord 90 = .ok (.iastore, 1) := by decide +kernel
theorem dX10_addChord_91 : decode cX10_addChord 91 = .ok (.aload_n 0, 1) := by decide +kernel
theorem dX10_addChord_92 : decode cX10_addChord 92 = .ok (.getfield 7, 3) := by decide +kernel
theorem dX10_addChord_95 : decode cX10_addChord 95 = .ok (.iload_n 3, 1) := by decide +kernel
theorem dX10_addChord_96 : decode cX10_addChord 96 = .ok (.invokestatic 94, 3) := by decide +kernel
theorem dX10_addChord_99 : decode cX10_addChord 99 = .ok (.iconst 1, 1) := by decide +kernel
theorem dX10_addChord_100 : decode cX10_addChord 100 = .ok (.iadd, 1) := by decide +kernel
theorem dX10_addChord_101 : decode cX10_addChord 101 = .ok (.iload_n 2, 1) := by decide +kernel
theorem dX10_addChord_102 : decode cX10_addChord 102 = .ok (.iastore, 1) := by decide +kernel
theorem dX10_addChord_103 : decode cX10_addChord 103 = .ok (.aload_n 0, 1) := by decide +kernel
theorem dX10_addChord_104 : decode cX10_addChord 104 = .ok (.iload_n 3, 1) := by decide +kernel
theorem dX10_addChord_105 : decode cX10_addChord 105 = .ok (.invokestatic 94, 3) := by decide +kernel
theorem dX10_addChord_108 : decode cX10_addChord 108 = .ok (.invokevirtual 149, 3) := by decide +kernel
theorem dX10_addChord_111 : decode cX10_addChord 111 = .ok (.iload_n 3, 1) := by decide +kernel
theorem dX10_addChord_112 : decode cX10_addChord 112 = .ok (.ireturn, 1) := by decide +kernel
theorem dX10_removeChord_0 : decode cX10_removeChord 0 = .ok (.aload_n 0, 1) := by decide +kernel
theorem dX10_removeChord_1 : decode cX10_removeChord 1 = .ok (.iconst 0, 1) := by decide +kernel
theorem dX10_removeChord_2 : decode cX10_removeChord 2 = .ok (.putfield 46, 3) := by decide +kernel
theorem dX10_removeChord_5 : decode cX10_removeChord 5 = .ok (.aload_n 0, 1) := by decide +kernel
theorem dX10_removeChord_6 : decode cX10_removeChord 6 = .ok (.iload_n 1, 1) := by decide +kernel
theorem dX10_removeChord_7 : decode cX10_removeChord 7 = .ok (.invokevirtual 127, 3) := by decide +kernel
theorem dX10_removeChord_10 : decode cX10_removeChord 10 = .ok (.ifCond .ne 9, 3) := by decide +kernel
theorem dX10_removeChord_13 : decode cX10_removeChord 13 = .ok (.aload_n 0, 1) := by decide +kernel
theorem dX10_removeChord_14 : decode cX10_removeChord 14 = .ok (.iconst 1, 1) := by decide +kernel
theorem dX10_removeChord_15 : decode cX10_removeChord 15 = .ok (.invokevirtual 101, 3) := by decide +kernel
theorem dX10_removeChord_18 : decode cX10_removeChord 18 = .ok (.ireturn, 1) := by decide +kernel
theorem dX10_removeChord_19 : decode cX10_removeChord 19 = .ok (.aload_n 0, 1) := by decide +kernel
theorem dX10_removeChord_20 : decode cX10_removeChord 20 = .ok (.invokevirtual 107, 3) := by decide +kernel
theorem dX10_removeChord_23 : decode cX10_removeChord 23 = .ok (.aload_n 0, 1) := by decide +kernel
theorem dX10_removeChord_24 : decode cX10_removeChord 24 = .ok (.iload_n 1, 1) := by decide +kernel
theorem dX10_removeChord_25 : decode cX10_removeChord 25 = .ok (.invokevirtual 158, 3) := by decide +kernel
theorem dX10_removeChord_28 : decode cX10_removeChord 28 = .ok (.aload_n 0, 1) := by decide +kernel
theorem dX10_removeChord_29 : decode cX10_removeChord 29 = .ok (.getfield 7, 3) := by decide +kernel
theorem dX10_removeChord_32 : decode cX10_removeChord 32 = .ok (.iconst 1, 1) := by decide +kernel
theorem dX10_removeChord_33 : decode cX10_removeChord 33 = .ok (.iaload, 1) := by decide +kernel
theorem dX10_removeChord_34 : decode cX10_removeChord 34 = .ok (.ireturn, 1) := by decide +kernel
theorem dX10_moveChord_0 : decode cX10_moveChord 0 = .ok (.aload_n 0, 1) := by decide +kernel
theorem dX10_moveChord_1 : decode cX10_moveChord 1 = .ok (.iconst 0, 1) := by decide +kernel
theorem dX10_moveChord_2 : decode cX10_moveChord 2 = .ok (.putfield 46, 3) := by decide +kernel
theorem dX10_moveChord_5 : decode cX10_moveChord 5 = .ok (.aload_n 0, 1) := by decide +kernel
theorem dX10_moveChord_6 : decode cX10_moveChord 6 = .ok (.iload_n 1, 1) := by decide +kernel
theorem dX10_moveChord_7 : decode cX10_moveChord 7 = .ok (.invokevirtual 127, 3) := by decide +kernel
theorem dX10_moveChord_10 : decode cX10_moveChord 10 = .ok (.ifCond .eq 24, 3) := by decide +kernel
theorem dX10_moveChord_13 : decode cX10_moveChord 13 = .ok (.iload_n 2, 1) := by decide +kernel
theorem dX10_moveChord_14 : decode cX10_moveChord 14 = .ok (.iconst 0, 1) := by decide +kernel
theorem dX10_moveChord_15 : decode cX10_moveChord 15 = .ok (.aload_n 0, 1) := by decide +kernel
theorem dX10_moveChord_16 : decode cX10_moveChord 16 = .ok (.aload_n 0, 1) := by decide +kernel
theorem dX10_moveChord_17 : decode cX10_moveChord 17 = .ok (.getfield 7, 3) := by decide +kernel
theorem dX10_moveChord_20 : decode cX10_moveChord 20 = .ok (.iload_n 1, 1) := by decide +kernel
theorem dX10_moveChord_21 : decode cX10_moveChord 21 = .ok (.invokestatic 94, 3) := by decide +kernel
theorem dX10_moveChord_24 : decode cX10_moveChord 24 = .ok (.iaload, 1) := by decide +kernel
theorem dX10_moveChord_25 : decode cX10_moveChord 25 = .ok (.invokevirtual 120, 3) := by decide +kernel
theorem dX10_moveChord_28 : decode cX10_moveChord 28 = .ok (.invokestatic 97, 3) := by decide +kernel
theorem dX10_moveChord_31 : decode cX10_moveChord 31 = .ok (.ifCond .ne 9, 3) := by decide +kernel
theorem dX10_moveChord_34 : decode cX10_moveChord 34 = .ok (.aload_n 0, 1) := by decide +kernel
theorem dX10_moveChord_35 : decode cX10_moveChord 35 = .ok (.iconst 1, 1) := by decide +kernel
theorem dX10_moveChord_36 : decode cX10_moveChord 36 = .ok (.invokevirtual 101, 3) := by decide +kernel
theorem dX10_moveChord_39 : decode cX10_moveChord 39 = .ok (.ireturn, 1) := by decide +kernel
theorem dX10_moveChord_40 : decode cX10_moveChord 40 = .ok (.aload_n 0, 1) := by decide +kernel
theorem dX10_moveChord_41 : decode cX10_moveChord 41 = .ok (.invokevirtual 107, 3) := by decide +kernel
theorem dX10_moveChord_44 : decode cX10_moveChord 44 = .ok (.aload_n 0, 1) := by decide +kernel
theorem dX10_moveChord_45 : decode cX10_moveChord 45 = .ok (.getfield 7, 3) := by decide +kernel
theorem dX10_moveChord_48 : decode cX10_moveChord 48 = .ok (.iload_n 1, 1) := by decide +kernel
theorem dX10_moveChord_49 : decode cX10_moveChord 49 = .ok (.invokestatic 94, 3) := by decide +kernel
theorem dX10_moveChord_52 : decode cX10_moveChord 52 = .ok (.iconst 0, 1) := by decide +kernel
theorem dX10_moveChord_53 : decode cX10_moveChord 53 = .ok (.iadd, 1) := by decide +kernel
theorem dX10_moveChord_54 : decode cX10_moveChord 54 = .ok (.iaload, 1) := by decide +kernel
theorem dX10_moveChord_55 : decode cX10_moveChord 55 = .ok (.istore_n 3, 1) := by decide +kernel
theorem dX10_moveChord_56 : decode cX10_moveChord 56 = .ok (.aload_n 0, 1) := by decide +kernel
theorem dX10_moveChord_57 : decode cX10_moveChord 57 = .ok (.getfield 7, 3) := by decide +kernel
theorem dX10_moveChord_60 : decode cX10_moveChord 60 = .ok (.iload_n 1, 1) := by decide +kernel
theorem dX10_moveChord_61 : decode cX10_moveChord 61 = .ok (.invokestatic 94, 3) := by decide +kernel
theorem dX10_moveChord_64 : decode cX10_moveChord 64 = .ok (.iconst 2, 1) := by decide +kernel
theorem dX10_moveChord_65 : decode cX10_moveChord 65 = .ok (.iadd, 1) := by decide +kernel
theorem dX10_moveChord_66 : decode cX10_moveChord 66 = .ok (.iaload, 1) := by decide +kernel
theorem dX10_moveChord_67 : decode cX10_moveChord 67 = .ok (.istore 4, 2) := by decide +kernel
theorem dX10_moveChord_69 : decode cX10_moveChord 69 = .ok (.aload_n 0, 1) := by decide +kernel
theorem dX10_moveChord_70 : decode cX10_moveChord 70 = .ok (.getfield 7, 3) := by decide +kernel
theorem dX10_moveChord_73 : decode cX10_moveChord 73 = .ok (.iload_n 1, 1) := by decide +kernel
theorem dX10_moveChord_74 : decode cX10_moveChord 74 = .ok (.invokestatic 94, 3) := by decide +kernel
end
section
theorem dX10_moveChord_77 : decode cX10_moveChord 77 = .ok (.iconst 3, 1) := by decide +kernel
theorem dX10_moveChord_78 : decode cX10_moveChord 78 = .ok (.iadd, 1) := by decide +kernel
theorem dX10_moveChord_79 : decode cX10_moveChord 79 = .ok (.iaload, 1) := by decide +kernel
theorem dX10_moveChord_80 : decode cX10_moveChord 80 = .ok (.istore 5, 2) := by decide +kernel
theorem dX10_moveChord_82 : decode cX10_moveChord 82 = .ok (.aload_n 0, 1) := by decide +kernel
theorem dX10_moveChord_83 : decode cX10_moveChord 83 = .ok (.getfield 7, 3) := by decide +kernel
theorem dX10_moveChord_86 : decode cX10_moveChord 86 = .ok (.iload_n 1, 1) := by decide +kernel
theorem dX10_moveChord_87 : decode cX10_moveChord 87 = .ok (.invokestatic 94, 3) := by decide +kernel
theorem dX10_moveChord_90 : decode cX10_moveChord 90 = .ok (.iconst 4, 1) := by decide +kernel
theorem dX10_moveChord_91 : decode cX10_moveChord 91 = .ok (.iadd, 1) := by decide +kernel
theorem dX10_moveChord_92 : decode cX10_moveChord 92 = .ok (.iaload, 1) := by decide +kernel
theorem dX10_moveChord_93 : decode cX10_moveChord 93 = .ok (.istore 6, 2) := by decide +kernel
theorem dX10_moveChord_95 : decode cX10_moveChord 95 = .ok (.aload_n 0, 1) := by decide +kernel
theorem dX10_moveChord_96 : decode cX10_moveChord 96 = .ok (.iload_n 1, 1) := by decide +kernel
theorem dX10_moveChord_97 : decode cX10_moveChord 97 = .ok (.invokevirtual 158, 3) := by decide +kernel
theorem dX10_moveChord_100 : decode cX10_moveChord 100 = .ok (.aload_n 0, 1) := by decide +kernel
theorem dX10_moveChord_101 : decode cX10_moveChord 101 = .ok (.iload_n 3, 1) := by decide +kernel
theorem dX10_moveChord_102 : decode cX10_moveChord 102 = .ok (.iload_n 2, 1) := by decide +kernel
theorem dX10_moveChord_103 : decode cX10_moveChord 103 = .ok (.invokevirtual 152, 3) := by decide +kernel
theorem dX10_moveChord_106 : decode cX10_moveChord 106 = .ok (.istore 7, 2) := by decide +kernel
theorem dX10_moveChord_108 : decode cX10_moveChord 108 = .ok (.aload_n 0, 1) := by decide +kernel
theorem dX10_moveChord_109 : decode cX10_moveChord 109 = .ok (.iload 7, 2) := by decide +kernel
theorem dX10_moveChord_111 : decode cX10_moveChord 111 = .ok (.invokevirtual 155, 3) := by decide +kernel
theorem dX10_moveChord_114 : decode cX10_moveChord 114 = .ok (.aload_n 0, 1) := by decide +kernel
theorem dX10_moveChord_115 : decode cX10_moveChord 115 = .ok (.getfield 7, 3) := by decide +kernel
theorem dX10_moveChord_118 : decode cX10_moveChord 118 = .ok (.iload 7, 2) := by decide +kernel
theorem dX10_moveChord_120 : decode cX10_moveChord 120 = .ok (.invokestatic 94, 3) := by decide +kernel
theorem dX10_moveChord_123 : decode cX10_moveChord 123 = .ok (.iconst 0, 1) := by decide +kernel
theorem dX10_moveChord_124 : decode cX10_moveChord 124 = .ok (.iadd, 1) := by decide +kernel
theorem dX10_moveChord_125 : decode cX10_moveChord 125 = .ok (.iload_n 3, 1) := by decide +kernel
theorem dX10_moveChord_126 : decode cX10_moveChord 126 = .ok (.iastore, 1) := by decide +kernel
theorem dX10_moveChord_127 : decode cX10_moveChord 127 = .ok (.aload_n 0, 1) := by decide +kernel
theorem dX10_moveChord_128 : decode cX10_moveChord 128 = .ok (.getfield 7, 3) := by decide +kernel
theorem dX10_moveChord_131 : decode cX10_moveChord 131 = .ok (.iload 7, 2) := by decide +kernel
theorem dX10_moveChord_133 : decode cX10_moveChord 133 = .ok (.invokestatic 94, 3) := by decide +kernel
theorem dX10_moveChord_136 : decode cX10_moveChord 136 = .ok (.iconst 1, 1) := by decide +kernel
theorem dX10_moveChord_137 : decode cX10_moveChord 137 = .ok (.iadd, 1) := by decide +kernel
theorem dX10_moveChord_138 : decode cX10_moveChord 138 = .ok (.iload_n 2, 1) := by decide +kernel
theorem dX10_moveChord_139 : decode cX10_moveChord 139 = .ok (.iastore, 1) := by decide +kernel
theorem dX10_moveChord_140 : decode cX10_moveChord 140 = .ok (.aload_n 0, 1) := by decide +kernel
theorem dX10_moveChord_141 : decode cX10_moveChord 141 = .ok (.getfield 7, 3) := by decide +kernel
theorem dX10_moveChord_144 : decode cX10_moveChord 144 = .ok (.iload 7, 2) := by decide +kernel
theorem dX10_moveChord_146 : decode cX10_moveChord 146 = .ok (.invokestatic 94, 3) := by decide +kernel
theorem dX10_moveChord_149 : decode cX10_moveChord 149 = .ok (.iconst 2, 1) := by decide +kernel
theorem dX10_moveChord_150 : decode cX10_moveChord 150 = .ok (.iadd, 1) := by decide +kernel
theorem dX10_moveChord_151 : decode cX10_moveChord 151 = .ok (.iload 4, 2) := by decide +kernel
theorem dX10_moveChord_153 : decode cX10_moveChord 153 = .ok (.iastore, 1) := by decide +kernel
theorem dX10_moveChord_154 : decode cX10_moveChord 154 = .ok (.aload_n 0, 1) := by decide +kernel
theorem dX10_moveChord_155 : decode cX10_moveChord 155 = .ok (.getfield 7, 3) := by decide +kernel
theorem dX10_moveChord_158 : decode cX10_moveChord 158 = .ok (.iload 7, 2) := by decide +kernel
theorem dX10_moveChord_160 : decode cX10_moveChord 160 = .ok (.invokestatic 94, 3) := by decide +kernel
theorem dX10_moveChord_163 : decode cX10_moveChord 163 = .ok (.iconst 3, 1) := by decide +kernel
theorem dX10_moveChord_164 : decode cX10_moveChord 164 = .ok (.iadd, 1) := by decide +kernel
theorem dX10_moveChord_165 : decode cX10_moveChord 165 = .ok (.iload 5, 2) := by decide +kernel
theorem dX10_moveChord_167 : decode cX10_moveChord 167 = .ok (.iastore, 1) := by decide +kernel
theorem dX10_moveChord_168 : decode cX10_moveChord 168 = .ok (.aload_n 0, 1) := by decide +kernel
theorem dX10_moveChord_169 : decode cX10_moveChord 169 = .ok (.getfield 7, 3) := by decide +kernel
theorem dX10_moveChord_172 : decode cX10_moveChord 172 = .ok (.iload 7, 2) := by decide +kernel
theorem dX10_moveChord_174 : decode cX10_moveChord 174 = .ok (.invokestatic 94, 3) := by decide +kernel
theorem dX10_moveChord_177 : decode cX10_moveChord 177 = .ok (.iconst 4, 1) := by decide +kernel
theorem dX10_moveChord_178 : decode cX10_moveChord 178 = .ok (.iadd, 1) := by decide +kernel
theorem dX10_moveChord_179 : decode cX10_moveChord 179 = .ok (.iload 6, 2) := by decide +kernel
theorem dX10_moveChord_181 : decode cX10_moveChord 181 = .ok (.iastore, 1) := by decide +kernel
theorem dX10_moveChord_182 : decode cX10_moveChord 182 = .ok (.iload 7, 2) := by decide +kernel
theorem dX10_moveChord_184 : decode cX10_moveChord 184 = .ok (.ireturn, 1) := by decide +kernel
theorem dX10_tonesOf_0 : decode cX10_tonesOf 0 = .ok (.iload_n 0, 1) := by decide +kernel
theorem dX10_tonesOf_1 : decode cX10_tonesOf 1 = .ok (.tableswitch 86 0 8 #[51, 55, 59, 63, 67, 71, 74, 78, 82], 51) := by decide +kernel
theorem dX10_tonesOf_52 : decode cX10_tonesOf 52 = .ok (.sipush 145, 3) := by decide +kernel
theorem dX10_tonesOf_55 : decode cX10_tonesOf 55 = .ok (.ireturn, 1) := by decide +kernel
theorem dX10_tonesOf_56 : decode cX10_tonesOf 56 = .ok (.sipush 137, 3) := by decide +kernel
theorem dX10_tonesOf_59 : decode cX10_tonesOf 59 = .ok (.ireturn, 1) := by decide +kernel
theorem dX10_tonesOf_60 : decode cX10_tonesOf 60 = .ok (.sipush 1169, 3) := by decide +kernel
theorem dX10_tonesOf_63 : decode cX10_tonesOf 63 = .ok (.ireturn, 1) := by decide +kernel
theorem dX10_tonesOf_64 : decode cX10_tonesOf 64 = .ok (.sipush 1161, 3) := by decide +kernel
theorem dX10_tonesOf_67 : decode cX10_tonesOf 67 = .ok (.ireturn, 1) := by decide +kernel
theorem dX10_tonesOf_68 : decode cX10_tonesOf 68 = .ok (.sipush 2193, 3) := by decide +kernel
theorem dX10_tonesOf_71 : decode cX10_tonesOf 71 = .ok (.ireturn, 1) := by decide +kernel
theorem dX10_tonesOf_72 : decode cX10_tonesOf 72 = .ok (.bipush 73, 2) := by decide +kernel
theorem dX10_tonesOf_74 : decode cX10_tonesOf 74 = .ok (.ireturn, 1) := by decide +kernel
theorem dX10_tonesOf_75 : decode cX10_tonesOf 75 = .ok (.sipush 273, 3) := by decide +kernel
theorem dX10_tonesOf_78 : decode cX10_tonesOf 78 = .ok (.ireturn, 1) := by decide +kernel
theorem dX10_tonesOf_79 : decode cX10_tonesOf 79 = .ok (.sipush 161, 3) := by decide +kernel
theorem dX10_tonesOf_82 : decode cX10_tonesOf 82 = .ok (.ireturn, 1) := by decide +kernel
theorem dX10_tonesOf_83 : decode cX10_tonesOf 83 = .ok (.sipush 657, 3) := by decide +kernel
theorem dX10_tonesOf_86 : decode cX10_tonesOf 86 = .ok (.ireturn, 1) := by decide +kernel
theorem dX10_tonesOf_87 : decode cX10_tonesOf 87 = .ok (.sipush 1173, 3) := by decide +kernel
theorem dX10_tonesOf_90 : decode cX10_tonesOf 90 = .ok (.ireturn, 1) := by decide +kernel
theorem dX10_hasTone_0 : decode cX10_hasTone 0 = .ok (.iload_n 1, 1) := by decide +kernel
theorem dX10_hasTone_1 : decode cX10_hasTone 1 = .ok (.invokestatic 94, 3) := by decide +kernel
theorem dX10_hasTone_4 : decode cX10_hasTone 4 = .ok (.istore_n 3, 1) := by decide +kernel
theorem dX10_hasTone_5 : decode cX10_hasTone 5 = .ok (.aload_n 0, 1) := by decide +kernel
theorem dX10_hasTone_6 : decode cX10_hasTone 6 = .ok (.getfield 7, 3) := by decide +kernel
theorem dX10_hasTone_9 : decode cX10_hasTone 9 = .ok (.iload_n 3, 1) := by decide +kernel
theorem dX10_hasTone_10 : decode cX10_hasTone 10 = .ok (.iconst 4, 1) := by decide +kernel
theorem dX10_hasTone_11 : decode cX10_hasTone 11 = .ok (.iadd, 1) := by decide +kernel
theorem dX10_hasTone_12 : decode cX10_hasTone 12 = .ok (.iaload, 1) := by decide +kernel
theorem dX10_hasTone_13 : decode cX10_hasTone 13 = .ok (.bipush 100, 2) := by decide +kernel
theorem dX10_hasTone_15 : decode cX10_hasTone 15 = .ok (.if_icmp .eq 22, 3) := by decide +kernel
theorem dX10_hasTone_18 : decode cX10_hasTone 18 = .ok (.aload_n 0, 1) := by decide +kernel
theorem dX10_hasTone_19 : decode cX10_hasTone 19 = .ok (.getfield 7, 3) := by decide +kernel
theorem dX10_hasTone_22 : decode cX10_hasTone 22 = .ok (.iload_n 3, 1) := by decide +kernel
theorem dX10_hasTone_23 : decode cX10_hasTone 23 = .ok (.iconst 4, 1) := by decide +kernel
theorem dX10_hasTone_24 : decode cX10_hasTone 24 = .ok (.iadd, 1) := by decide +kernel
theorem dX10_hasTone_25 : decode cX10_hasTone 25 = .ok (.iaload, 1) := by decide +kernel
theorem dX10_hasTone_26 : decode cX10_hasTone 26 = .ok (.invokestatic 161, 3) := by decide +kernel
theorem dX10_hasTone_29 : decode cX10_hasTone 29 = .ok (.iload_n 2, 1) := by decide +kernel
theorem dX10_hasTone_30 : decode cX10_hasTone 30 = .ok (.if_icmp .ne 7, 3) := by decide +kernel
theorem dX10_hasTone_33 : decode cX10_hasTone 33 = .ok (.iconst 1, 1) := by decide +kernel
theorem dX10_hasTone_34 : decode cX10_hasTone 34 = .ok (.goto 4, 3) := by decide +kernel
theorem dX10_hasTone_37 : decode cX10_hasTone 37 = .ok (.iconst 0, 1) := by decide +kernel
theorem dX10_hasTone_38 : decode cX10_hasTone 38 = .ok (.istore 4, 2) := by decide +kernel
theorem dX10_hasTone_40 : decode cX10_hasTone 40 = .ok (.iload 4, 2) := by decide +kernel
theorem dX10_hasTone_42 : decode cX10_hasTone 42 = .ok (.ifCond .ne 37, 3) := by decide +kernel
theorem dX10_hasTone_45 : decode cX10_hasTone 45 = .ok (.aload_n 0, 1) := by decide +kernel
theorem dX10_hasTone_46 : decode cX10_hasTone 46 = .ok (.getfield 7, 3) := by decide +kernel
theorem dX10_hasTone_49 : decode cX10_hasTone 49 = .ok (.iload_n 3, 1) := by decide +kernel
theorem dX10_hasTone_50 : decode cX10_hasTone 50 = .ok (.iconst 3, 1) := by decide +kernel
theorem dX10_hasTone_51 : decode cX10_hasTone 51 = .ok (.iadd, 1) := by decide +kernel
theorem dX10_hasTone_52 : decode cX10_hasTone 52 = .ok (.iaload, 1) := by decide +kernel
theorem dX10_hasTone_53 : decode cX10_hasTone 53 = .ok (.invokestatic 164, 3) := by decide +kernel
theorem dX10_hasTone_56 : decode cX10_hasTone 56 = .ok (.iload_n 2, 1) := by decide +kernel
theorem dX10_hasTone_57 : decode cX10_hasTone 57 = .ok (.aload_n 0, 1) := by decide +kernel
theorem dX10_hasTone_58 : decode cX10_hasTone 58 = .ok (.getfield 7, 3) := by decide +kernel
theorem dX10_hasTone_61 : decode cX10_hasTone 61 = .ok (.iload_n 3, 1) := by decide +kernel
theorem dX10_hasTone_62 : decode cX10_hasTone 62 = .ok (.iconst 2, 1) := by decide +kernel
theorem dX10_hasTone_63 : decode cX10_hasTone 63 = .ok (.iadd, 1) := by decide +kernel
theorem dX10_hasTone_64 : decode cX10_hasTone 64 = .ok (.iaload, 1) := by decide +kernel
theorem dX10_hasTone_65 : decode cX10_hasTone 65 = .ok (.invokestatic 161, 3) := by decide +kernel
theorem dX10_hasTone_68 : decode cX10_hasTone 68 = .ok (.isub, 1) := by decide +kernel
theorem dX10_hasTone_69 : decode cX10_hasTone 69 = .ok (.invokestatic 52, 3) := by decide +kernel
theorem dX10_hasTone_72 : decode cX10_hasTone 72 = .ok (.ishr, 1) := by decide +kernel
theorem dX10_hasTone_73 : decode cX10_hasTone 73 = .ok (.iconst 1, 1) := by decide +kernel
theorem dX10_hasTone_74 : decode cX10_hasTone 74 = .ok (.iand, 1) := by decide +kernel
theorem dX10_hasTone_75 : decode cX10_hasTone 75 = .ok (.iconst 1, 1) := by decide +kernel
theorem dX10_hasTone_76 : decode cX10_hasTone 76 = .ok (.if_icmp .ne 7, 3) := by decide +kernel
theorem dX10_hasTone_79 : decode cX10_hasTone 79 = .ok (.iconst 1, 1) := by decide +kernel
theorem dX10_hasTone_80 : decode cX10_hasTone 80 = .ok (.goto 4, 3) := by decide +kernel
theorem dX10_hasTone_83 : decode cX10_hasTone 83 = .ok (.iconst 0, 1) := by decide +kernel
theorem dX10_hasTone_84 : decode cX10_hasTone 84 = .ok (.ireturn, 1) := by decide +kernel
theorem dX10_commonTones_0 : decode cX10_commonTones 0 = .ok (.aload_n 0, 1) := by decide +kernel
theorem dX10_commonTones_1 : decode cX10_commonTones 1 = .ok (.iconst 0, 1) := by decide +kernel
theorem dX10_commonTones_2 : decode cX10_commonTones 2 = .ok (.putfield 46, 3) := by decide +kernel
theorem dX10_commonTones_5 : decode cX10_commonTones 5 = .ok (.aload_n 0, 1) := by decide +kernel
theorem dX10_commonTones_6 : decode cX10_commonTones 6 = .ok (.iload_n 1, 1) := by decide +kernel
theorem dX10_commonTones_7 : decode cX10_commonTones 7 = .ok (.invokevirtual 127, 3) := by decide +kernel
theorem dX10_commonTones_10 : decode cX10_commonTones 10 = .ok (.ifCond .eq 13, 3) := by decide +kernel
theorem dX10_commonTones_13 : decode cX10_commonTones 13 = .ok (.aload_n 0, 1) := by decide +kernel
theorem dX10_commonTones_14 : decode cX10_commonTones 14 = .ok (.iload_n 1, 1) := by decide +kernel
theorem dX10_commonTones_15 : decode cX10_commonTones 15 = .ok (.iconst 1, 1) := by decide +kernel
theorem dX10_commonTones_16 : decode cX10_commonTones 16 = .ok (.iadd, 1) := by decide +kernel
theorem dX10_commonTones_17 : decode cX10_commonTones 17 = .ok (.invokevirtual 127, 3) := by decide +kernel
theorem dX10_commonTones_20 : decode cX10_commonTones 20 = .ok (.ifCond .ne 9, 3) := by decide +kernel
theorem dX10_commonTones_23 : decode cX10_commonTones 23 = .ok (.aload_n 0, 1) := by decide +kernel
theorem dX10_commonTones_24 : decode cX10_commonTones 24 = .ok (.iconst 1, 1) := by decide +kernel
theorem dX10_commonTones_25 : decode cX10_commonTones 25 = .ok (.invokevirtual 101, 3) := by decide +kernel
theorem dX10_commonTones_28 : decode cX10_commonTones 28 = .ok (.ireturn, 1) := by decide +kernel
theorem dX10_commonTones_29 : decode cX10_commonTones 29 = .ok (.iconst 0, 1) := by decide +kernel
theorem dX10_commonTones_30 : decode cX10_commonTones 30 = .ok (.istore_n 2, 1) := by decide +kernel
theorem dX10_commonTones_31 : decode cX10_commonTones 31 = .ok (.iconst 0, 1) := by decide +kernel
theorem dX10_commonTones_32 : decode cX10_commonTones 32 = .ok (.istore_n 3, 1) := by decide +kernel
theorem dX10_commonTones_33 : decode cX10_commonTones 33 = .ok (.iload_n 3, 1) := by decide +kernel
theorem dX10_commonTones_34 : decode cX10_commonTones 34 = .ok (.bipush 12, 2) := by decide +kernel
theorem dX10_commonTones_36 : decode cX10_commonTones 36 = .ok (.if_icmp .ge 37, 3) := by decide +kernel
theorem dX10_commonTones_39 : decode cX10_commonTones 39 = .ok (.iload_n 2, 1) := by decide +kernel
theorem dX10_commonTones_40 : decode cX10_commonTones 40 = .ok (.aload_n 0, 1) := by decide +kernel
theorem dX10_commonTones_41 : decode cX10_commonTones 41 = .ok (.iload_n 1, 1) := by decide +kernel
theorem dX10_commonTones_42 : decode cX10_commonTones 42 = .ok (.iload_n 3, 1) := by decide +kernel
theorem dX10_commonTones_43 : decode cX10_commonTones 43 = .ok (.invokevirtual 167, 3) := by decide +kernel
theorem dX10_commonTones_46 : decode cX10_commonTones 46 = .ok (.ifCond .eq 18, 3) := by decide +kernel
theorem dX10_commonTones_49 : decode cX10_commonTones 49 = .ok (.aload_n 0, 1) := by decide +kernel
theorem dX10_commonTones_50 : decode cX10_commonTones 50 = .ok (.iload_n 1, 1) := by decide +kernel
theorem dX10_commonTones_51 : decode cX10_commonTones 51 = .ok (.iconst 1, 1) := by decide +kernel
theorem dX10_commonTones_52 : decode cX10_commonTones 52 = .ok (.iadd, 1) := by decide +kernel
theorem dX10_commonTones_53 : decode cX10_commonTones 53 = .ok (.iload_n 3, 1) := by decide +kernel
theorem dX10_commonTones_54 : decode cX10_commonTones 54 = .ok (.invokevirtual 167, 3) := by decide +kernel
theorem dX10_commonTones_57 : decode cX10_commonTones 57 = .ok (.ifCond .eq 7, 3) := by decide +kernel
theorem dX10_commonTones_60 : decode cX10_commonTones 60 = .ok (.iconst 1, 1) := by decide +kernel
theorem dX10_commonTones_61 : decode cX10_commonTones 61 = .ok (.goto 4, 3) := by decide +kernel
theorem dX10_commonTones_64 : decode cX10_commonTones 64 = .ok (.iconst 0, 1) := by decide +kernel
theorem dX10_commonTones_65 : decode cX10_commonTones 65 = .ok (.iadd, 1) := by decide +kernel
theorem dX10_commonTones_66 : decode cX10_commonTones 66 = .ok (.istore_n 2, 1) := by decide +kernel
theorem dX10_commonTones_67 : decode cX10_commonTones 67 = .ok (.iinc 3 1, 3) := by decide +kernel
theorem dX10_commonTones_70 : decode cX10_commonTones 70 = .ok (.goto (-37), 3) := by decide +kernel
theorem dX10_commonTones_73 : decode cX10_commonTones 73 = .ok (.iload_n 2, 1) := by decide +kernel
theorem dX10_commonTones_74 : decode cX10_commonTones 74 = .ok (.ireturn, 1) := by decide +kernel
theorem dX10_isInScale_0 : decode cX10_isInScale 0 = .ok (.iconst 0, 1) := by decide +kernel
theorem dX10_isInScale_1 : decode cX10_isInScale 1 = .ok (.istore_n 2, 1) := by decide +kernel
theorem dX10_isInScale_2 : decode cX10_isInScale 2 = .ok (.iload_n 0, 1) := by decide +kernel
theorem dX10_isInScale_3 : decode cX10_isInScale 3 = .ok (.iconst 1, 1) := by decide +kernel
theorem dX10_isInScale_4 : decode cX10_isInScale 4 = .ok (.isub, 1) := by decide +kernel
theorem dX10_isInScale_5 : decode cX10_isInScale 5 = .ok (.istore_n 3, 1) := by decide +kernel
theorem dX10_isInScale_6 : decode cX10_isInScale 6 = .ok (.iload_n 3, 1) := by decide +kernel
theorem dX10_isInScale_7 : decode cX10_isInScale 7 = .ok (.iload_n 0, 1) := by decide +kernel
theorem dX10_isInScale_8 : decode cX10_isInScale 8 = .ok (.iconst 5, 1) := by decide +kernel
theorem dX10_isInScale_9 : decode cX10_isInScale 9 = .ok (.iadd, 1) := by decide +kernel
theorem dX10_isInScale_10 : decode cX10_isInScale 10 = .ok (.if_icmp .gt 27, 3) := by decide +kernel
theorem dX10_isInScale_13 : decode cX10_isInScale 13 = .ok (.iload_n 2, 1) := by decide +kernel
theorem dX10_isInScale_14 : decode cX10_isInScale 14 = .ok (.ifCond .ne 11, 3) := by decide +kernel
theorem dX10_isInScale_17 : decode cX10_isInScale 17 = .ok (.iload_n 3, 1) := by decide +kernel
theorem dX10_isInScale_18 : decode cX10_isInScale 18 = .ok (.invokestatic 161, 3) := by decide +kernel
theorem dX10_isInScale_21 : decode cX10_isInScale 21 = .ok (.iload_n 1, 1) := by decide +kernel
theorem dX10_isInScale_22 : decode cX10_isInScale 22 = .ok (.if_icmp .ne 7, 3) := by decide +kernel
theorem dX10_isInScale_25 : decode cX10_isInScale 25 = .ok (.iconst 1, 1) := by decide +kernel
theorem dX10_isInScale_26 : decode cX10_isInScale 26 = .ok (.goto 4, 3) := by decide +kernel
theorem dX10_isInScale_29 : decode cX10_isInScale 29 = .ok (.iconst 0, 1) := by decide +kernel
theorem dX10_isInScale_30 : decode cX10_isInScale 30 = .ok (.istore_n 2, 1) := by decide +kernel
theorem dX10_isInScale_31 : decode cX10_isInScale 31 = .ok (.iinc 3 1, 3) := by decide +kernel
theorem dX10_isInScale_34 : decode cX10_isInScale 34 = .ok (.goto (-28), 3) := by decide +kernel
theorem dX10_isInScale_37 : decode cX10_isInScale 37 = .ok (.iload_n 2, 1) := by decide +kernel
theorem dX10_isInScale_38 : decode cX10_isInScale 38 = .ok (.ireturn, 1) := by decide +kernel
theorem dX10_signatureNow_0 : decode cX10_signatureNow 0 = .ok (.aload_n 0, 1) := by decide +kernel
theorem dX10_signatureNow_1 : decode cX10_signatureNow 1 = .ok (.getfield 7, 3) := by decide +kernel
theorem dX10_signatureNow_4 : decode cX10_signatureNow 4 = .ok (.iconst 2, 1) := by decide +kernel
theorem dX10_signatureNow_5 : decode cX10_signatureNow 5 = .ok (.iaload, 1) := by decide +kernel
theorem dX10_signatureNow_6 : decode cX10_signatureNow 6 = .ok (.iconst 3, 1) := by decide +kernel
theorem dX10_signatureNow_7 : decode cX10_signatureNow 7 = .ok (.aload_n 0, 1) := by decide +kernel
theorem dX10_signatureNow_8 : decode cX10_signatureNow 8 = .ok (.getfield 7, 3) := by decide +kernel
theorem dX10_signatureNow_11 : decode cX10_signatureNow 11 = .ok (.iconst 3, 1) := by decide +kernel
theorem dX10_signatureNow_12 : decode cX10_signatureNow 12 = .ok (.iaload, 1) := by decide +kernel
theorem dX10_signatureNow_13 : decode cX10_signatureNow 13 = .ok (.imul, 1) := by decide +kernel
theorem dX10_signatureNow_14 : decode cX10_signatureNow 14 = .ok (.isub, 1) := by decide +kernel
theorem dX10_signatureNow_15 : decode cX10_signatureNow 15 = .ok (.ireturn, 1) := by decide +kernel
theorem dX10_degree_0 : decode cX10_degree 0 = .ok (.aload_n 0, 1) := by decide +kernel
theorem dX10_degree_1 : decode cX10_degree 1 = .ok (.iconst 0, 1) := by decide +kernel
theorem dX10_degree_2 : decode cX10_degree 2 = .ok (.putfield 46, 3) := by decide +kernel
theorem dX10_degree_5 : decode cX10_degree 5 = .ok (.aload_n 0, 1) := by decide +kernel
theorem dX10_degree_6 : decode cX10_degree 6 = .ok (.iload_n 1, 1) := by decide +kernel
theorem dX10_degree_7 : decode cX10_degree 7 = .ok (.invokevirtual 127, 3) := by decide +kernel
theorem dX10_degree_10 : decode cX10_degree 10 = .ok (.ifCond .ne 9, 3) := by decide +kernel
theorem dX10_degree_13 : decode cX10_degree 13 = .ok (.aload_n 0, 1) := by decide +kernel
theorem dX10_degree_14 : decode cX10_degree 14 = .ok (.iconst 1, 1) := by decide +kernel
theorem dX10_degree_15 : decode cX10_degree 15 = .ok (.invokevirtual 101, 3) := by decide +kernel
theorem dX10_degree_18 : decode cX10_degree 18 = .ok (.ireturn, 1) := by decide +kernel
theorem dX10_degree_19 : decode cX10_degree 19 = .ok (.aload_n 0, 1) := by decide +kernel
theorem dX10_degree_20 : decode cX10_degree 20 = .ok (.getfield 7, 3) := by decide +kernel
theorem dX10_degree_23 : decode cX10_degree 23 = .ok (.iload_n 1, 1) := by decide +kernel
theorem dX10_degree_24 : decode cX10_degree 24 = .ok (.invokestatic 94, 3) := by decide +kernel
theorem dX10_degree_27 : decode cX10_degree 27 = .ok (.iconst 2, 1) := by decide +kernel
theorem dX10_degree_28 : decode cX10_degree 28 = .ok (.iadd, 1) := by decide +kernel
theorem dX10_degree_29 : decode cX10_degree 29 = .ok (.iaload, 1) := by decide +kernel
theorem dX10_degree_30 : decode cX10_degree 30 = .ok (.invokestatic 161, 3) := by decide +kernel
theorem dX10_degree_33 : decode cX10_degree 33 = .ok (.istore_n 2, 1) := by decide +kernel
theorem dX10_degree_34 : decode cX10_degree 34 = .ok (.iconst 0, 1) := by decide +kernel
theorem dX10_degree_35 : decode cX10_degree 35 = .ok (.istore_n 3, 1) := by decide +kernel
theorem dX10_degree_36 : decode cX10_degree 36 = .ok (.iconst 0, 1) := by decide +kernel
theorem dX10_degree_37 : decode cX10_degree 37 = .ok (.istore 4, 2) := by decide +kernel
theorem dX10_degree_39 : decode cX10_degree 39 = .ok (.iload 4, 2) := by decide +kernel
theorem dX10_degree_41 : decode cX10_degree 41 = .ok (.bipush 12, 2) := by decide +kernel
theorem dX10_degree_43 : decode cX10_degree 43 = .ok (.if_icmp .ge 63, 3) := by decide +kernel
theorem dX10_degree_46 : decode cX10_degree 46 = .ok (.aload_n 0, 1) := by decide +kernel
theorem dX10_degree_47 : decode cX10_degree 47 = .ok (.getfield 7, 3) := by decide +kernel
theorem dX10_degree_50 : decode cX10_degree 50 = .ok (.iconst 2, 1) := by decide +kernel
theorem dX10_degree_51 : decode cX10_degree 51 = .ok (.iaload, 1) := by decide +kernel
theorem dX10_degree_52 : decode cX10_degree 52 = .ok (.invokestatic 161, 3) := by decide +kernel
theorem dX10_degree_55 : decode cX10_degree 55 = .ok (.iload 4, 2) := by decide +kernel
theorem dX10_degree_57 : decode cX10_degree 57 = .ok (.iadd, 1) := by decide +kernel
theorem dX10_degree_58 : decode cX10_degree 58 = .ok (.invokestatic 52, 3) := by decide +kernel
theorem dX10_degree_61 : decode cX10_degree 61 = .ok (.istore 5, 2) := by decide +kernel
theorem dX10_degree_63 : decode cX10_degree 63 = .ok (.aload_n 0, 1) := by decide +kernel
theorem dX10_degree_64 : decode cX10_degree 64 = .ok (.invokevirtual 171, 3) := by decide +kernel
theorem dX10_degree_67 : decode cX10_degree 67 = .ok (.iload 5, 2) := by decide +kernel
theorem dX10_degree_69 : decode cX10_degree 69 = .ok (.invokestatic 174, 3) := by decide +kernel
theorem dX10_degree_72 : decode cX10_degree 72 = .ok (.istore 6, 2) := by decide +kernel
theorem dX10_degree_74 : decode cX10_degree 74 = .ok (.iload_n 3, 1) := by decide +kernel
theorem dX10_degree_75 : decode cX10_degree 75 = .ok (.iload 6, 2) := by decide +kernel
theorem dX10_degree_77 : decode cX10_degree 77 = .ok (.ifCond .eq 7, 3) := by decide +kernel
theorem dX10_degree_80 : decode cX10_degree 80 = .ok (.iconst 1, 1) := by decide +kernel
theorem dX10_degree_81 : decode cX10_degree 81 = .ok (.goto 4, 3) := by decide +kernel
theorem dX10_degree_84 : decode cX10_degree 84 = .ok (.iconst 0, 1) := by decide +kernel
theorem dX10_degree_85 : decode cX10_degree 85 = .ok (.iadd, 1) := by decide +kernel
theorem dX10_degree_86 : decode cX10_degree 86 = .ok (.istore_n 3, 1) := by decide +kernel
theorem dX10_degree_87 : decode cX10_degree 87 = .ok (.iload 6, 2) := by decide +kernel
theorem dX10_degree_89 : decode cX10_degree 89 = .ok (.ifCond .eq 11, 3) := by decide +kernel
theorem dX10_degree_92 : decode cX10_degree 92 = .ok (.iload 5, 2) := by decide +kernel
theorem dX10_degree_94 : decode cX10_degree 94 = .ok (.iload_n 2, 1) := by decide +kernel
theorem dX10_degree_95 : decode cX10_degree 95 = .ok (.if_icmp .ne 5, 3) := by decide +kernel
theorem dX10_degree_98 : decode cX10_degree 98 = .ok (.iload_n 3, 1) := by decide +kernel
theorem dX10_degree_99 : decode cX10_degree 99 = .ok (.ireturn, 1) := by decide +kernel
theorem dX10_degree_100 : decode cX10_degree 100 = .ok (.iinc 4 1, 3) := by decide +kernel
theorem dX10_degree_103 : decode cX10_degree 103 = .ok (.goto (-64), 3) := by decide +kernel
theorem dX10_degree_106 : decode cX10_degree 106 = .ok (.iconst 0, 1) := by decide +kernel
theorem dX10_degree_107 : decode cX10_degree 107 = .ok (.ireturn, 1) := by decide +kernel
theorem dX10_tonic_0 : decode cX10_tonic 0 = .ok (.aload_n 0, 1) := by decide +kernel
theorem dX10_tonic_1 : decode cX10_tonic 1 = .ok (.iconst 0, 1) := by decide +kernel
theorem dX10_tonic_2 : decode cX10_tonic 2 = .ok (.putfield 46, 3) := by decide +kernel
theorem dX10_tonic_5 : decode cX10_tonic 5 = .ok (.aload_n 0, 1) := by decide +kernel
theorem dX10_tonic_6 : decode cX10_tonic 6 = .ok (.getfield 7, 3) := by decide +kernel
theorem dX10_tonic_9 : decode cX10_tonic 9 = .ok (.iconst 2, 1) := by decide +kernel
theorem dX10_tonic_10 : decode cX10_tonic 10 = .ok (.iaload, 1) := by decide +kernel
theorem dX10_tonic_11 : decode cX10_tonic 11 = .ok (.ireturn, 1) := by decide +kernel
theorem dX10_isMinor_0 : decode cX10_isMinor 0 = .ok (.aload_n 0, 1) := by decide +kernel
theorem dX10_isMinor_1 : decode cX10_isMinor 1 = .ok (.iconst 0, 1) := by decide +kernel
theorem dX10_isMinor_2 : decode cX10_isMinor 2 = .ok (.putfield 46, 3) := by decide +kernel
theorem dX10_isMinor_5 : decode cX10_isMinor 5 = .ok (.aload_n 0, 1) := by decide +kernel
theorem dX10_isMinor_6 : decode cX10_isMinor 6 = .ok (.getfield 7, 3) := by decide +kernel
theorem dX10_isMinor_9 : decode cX10_isMinor 9 = .ok (.iconst 3, 1) := by decide +kernel
theorem dX10_isMinor_10 : decode cX10_isMinor 10 = .ok (.iaload, 1) := by decide +kernel
theorem dX10_isMinor_11 : decode cX10_isMinor 11 = .ok (.iconst 1, 1) := by decide +kernel
theorem dX10_isMinor_12 : decode cX10_isMinor 12 = .ok (.if_icmp .ne 7, 3) := by decide +kernel
theorem dX10_isMinor_15 : decode cX10_isMinor 15 = .ok (.iconst 1, 1) := by decide +kernel
theorem dX10_isMinor_16 : decode cX10_isMinor 16 = .ok (.goto 4, 3) := by decide +kernel
theorem dX10_isMinor_19 : decode cX10_isMinor 19 = .ok (.iconst 0, 1) := by decide +kernel
theorem dX10_isMinor_20 : decode cX10_isMinor 20 = .ok (.ireturn, 1) := by decide +kernel
theorem dX10_signature_0 : decode cX10_signature 0 = .ok (.aload_n 0, 1) := by decide +kernel
theorem dX10_signature_1 : decode cX10_signature 1 = .ok (.iconst 0, 1) := by decide +kernel
theorem dX10_signature_2 : decode cX10_signature 2 = .ok (.putfield 46, 3) := by decide +kernel
theorem dX10_signature_5 : decode cX10_signature 5 = .ok (.aload_n 0, 1) := by decide +kernel
theorem dX10_signature_6 : decode cX10_signature 6 = .ok (.invokevirtual 171, 3) := by decide +kernel
theorem dX10_signature_9 : decode cX10_signature 9 = .ok (.ireturn, 1) := by decide +kernel
theorem dX10_isKey_0 : decode cX10_isKey 0 = .ok (.iload_n 1, 1) := by decide +kernel
theorem dX10_isKey_1 : decode cX10_isKey 1 = .ok (.ifCond .eq 9, 3) := by decide +kernel
theorem dX10_isKey_4 : decode cX10_isKey 4 = .ok (.iload_n 0, 1) := by decide +kernel
theorem dX10_isKey_5 : decode cX10_isKey 5 = .ok (.iconst 3, 1) := by decide +kernel
theorem dX10_isKey_6 : decode cX10_isKey 6 = .ok (.isub, 1) := by decide +kernel
theorem dX10_isKey_7 : decode cX10_isKey 7 = .ok (.goto 4, 3) := by decide +kernel
theorem dX10_isKey_10 : decode cX10_isKey 10 = .ok (.iload_n 0, 1) := by decide +kernel
theorem dX10_isKey_11 : decode cX10_isKey 11 = .ok (.bipush (-6), 2) := by decide +kernel
theorem dX10_isKey_13 : decode cX10_isKey 13 = .ok (.bipush 6, 2) := by decide +kernel
theorem dX10_isKey_15 : decode cX10_isKey 15 = .ok (.invokestatic 97, 3) := by decide +kernel
theorem dX10_isKey_18 : decode cX10_isKey 18 = .ok (.ireturn, 1) := by decide +kernel
theorem dX10_setKey_0 : decode cX10_setKey 0 = .ok (.aload_n 0, 1) := by decide +kernel
theorem dX10_setKey_1 : decode cX10_setKey 1 = .ok (.iconst 0, 1) := by decide +kernel
theorem dX10_setKey_2 : decode cX10_setKey 2 = .ok (.putfield 46, 3) := by decide +kernel
theorem dX10_setKey_5 : decode cX10_setKey 5 = .ok (.iload_n 1, 1) := by decide +kernel
theorem dX10_setKey_6 : decode cX10_setKey 6 = .ok (.iload_n 2, 1) := by decide +kernel
theorem dX10_setKey_7 : decode cX10_setKey 7 = .ok (.invokestatic 177, 3) := by decide +kernel
theorem dX10_setKey_10 : decode cX10_setKey 10 = .ok (.ifCond .ne 9, 3) := by decide +kernel
theorem dX10_setKey_13 : decode cX10_setKey 13 = .ok (.aload_n 0, 1) := by decide +kernel
theorem dX10_setKey_14 : decode cX10_setKey 14 = .ok (.iconst 1, 1) := by decide +kernel
theorem dX10_setKey_15 : decode cX10_setKey 15 = .ok (.invokevirtual 101, 3) := by decide +kernel
theorem dX10_setKey_18 : decode cX10_setKey 18 = .ok (.ireturn, 1) := by decide +kernel
theorem dX10_setKey_19 : decode cX10_setKey 19 = .ok (.aload_n 0, 1) := by decide +kernel
theorem dX10_setKey_20 : decode cX10_setKey 20 = .ok (.invokevirtual 107, 3) := by decide +kernel
theorem dX10_setKey_23 : decode cX10_setKey 23 = .ok (.aload_n 0, 1) := by decide +kernel
theorem dX10_setKey_24 : decode cX10_setKey 24 = .ok (.invokevirtual 171, 3) := by decide +kernel
theorem dX10_setKey_27 : decode cX10_setKey 27 = .ok (.istore_n 3, 1) := by decide +kernel
theorem dX10_setKey_28 : decode cX10_setKey 28 = .ok (.aload_n 0, 1) := by decide +kernel
theorem dX10_setKey_29 : decode cX10_setKey 29 = .ok (.getfield 7, 3) := by decide +kernel
theorem dX10_setKey_32 : decode cX10_setKey 32 = .ok (.iconst 2, 1) := by decide +kernel
theorem dX10_setKey_33 : decode cX10_setKey 33 = .ok (.iload_n 1, 1) := by decide +kernel
theorem dX10_setKey_34 : decode cX10_setKey 34 = .ok (.iastore, 1) := by decide +kernel
theorem dX10_setKey_35 : decode cX10_setKey 35 = .ok (.aload_n 0, 1) := by decide +kernel
theorem dX10_setKey_36 : decode cX10_setKey 36 = .ok (.getfield 7, 3) := by decide +kernel
theorem dX10_setKey_39 : decode cX10_setKey 39 = .ok (.iconst 3, 1) := by decide +kernel
theorem dX10_setKey_40 : decode cX10_setKey 40 = .ok (.iload_n 2, 1) := by decide +kernel
theorem dX10_setKey_41 : decode cX10_setKey 41 = .ok (.ifCond .eq 7, 3) := by decide +kernel
theorem dX10_setKey_44 : decode cX10_setKey 44 = .ok (.iconst 1, 1) := by decide +kernel
theorem dX10_setKey_45 : decode cX10_setKey 45 = .ok (.goto 4, 3) := by decide +kernel
theorem dX10_setKey_48 : decode cX10_setKey 48 = .ok (.iconst 0, 1) := by decide +kernel
theorem dX10_setKey_49 : decode cX10_setKey 49 = .ok (.iastore, 1) := by decide +kernel
theorem dX10_setKey_50 : decode cX10_setKey 50 = .ok (.iload_n 3, 1) := by decide +kernel
theorem dX10_setKey_51 : decode cX10_setKey 51 = .ok (.ireturn, 1) := by decide +kernel
theorem dX10_isMinorChord_0 : decode cX10_isMinorChord 0 = .ok (.iload_n 0, 1) := by decide +kernel
theorem dX10_isMinorChord_1 : decode cX10_isMinorChord 1 = .ok (.iconst 1, 1) := by decide +kernel
theorem dX10_isMinorChord_2 : decode cX10_isMinorChord 2 = .ok (.if_icmp .eq 13, 3) := by decide +kernel
theorem dX10_isMinorChord_5 : decode cX10_isMinorChord 5 = .ok (.iload_n 0, 1) := by decide +kernel
theorem dX10_isMinorChord_6 : decode cX10_isMinorChord 6 = .ok (.iconst 3, 1) := by decide +kernel
theorem dX10_isMinorChord_7 : decode cX10_isMinorChord 7 = .ok (.if_icmp .eq 8, 3) := by decide +kernel
theorem dX10_isMinorChord_10 : decode cX10_isMinorChord 10 = .ok (.iload_n 0, 1) := by decide +kernel
theorem dX10_isMinorChord_11 : decode cX10_isMinorChord 11 = .ok (.iconst 5, 1) := by decide +kernel
theorem dX10_isMinorChord_12 : decode cX10_isMinorChord 12 = .ok (.if_icmp .ne 7, 3) := by decide +kernel
theorem dX10_isMinorChord_15 : decode cX10_isMinorChord 15 = .ok (.iconst 1, 1) := by decide +kernel
theorem dX10_isMinorChord_16 : decode cX10_isMinorChord 16 = .ok (.goto 4, 3) := by decide +kernel
theorem dX10_isMinorChord_19 : decode cX10_isMinorChord 19 = .ok (.iconst 0, 1) := by decide +kernel
theorem dX10_isMinorChord_20 : decode cX10_isMinorChord 20 = .ok (.ireturn, 1) := by decide +kernel
theorem dX10_scoreOf_0 : decode cX10_scoreOf 0 = .ok (.iconst 0, 1) := by decide +kernel
theorem dX10_scoreOf_1 : decode cX10_scoreOf 1 = .ok (.istore_n 3, 1) := by decide +kernel
theorem dX10_scoreOf_2 : decode cX10_scoreOf 2 = .ok (.iconst 0, 1) := by decide +kernel
theorem dX10_scoreOf_3 : decode cX10_scoreOf 3 = .ok (.istore 4, 2) := by decide +kernel
theorem dX10_scoreOf_5 : decode cX10_scoreOf 5 = .ok (.iload 4, 2) := by decide +kernel
theorem dX10_scoreOf_7 : decode cX10_scoreOf 7 = .ok (.aload_n 0, 1) := by decide +kernel
theorem dX10_scoreOf_8 : decode cX10_scoreOf 8 = .ok (.getfield 7, 3) := by decide +kernel
theorem dX10_scoreOf_11 : decode cX10_scoreOf 11 = .ok (.iconst 1, 1) := by decide +kernel
theorem dX10_scoreOf_12 : decode cX10_scoreOf 12 = .ok (.iaload, 1) := by decide +kernel
theorem dX10_scoreOf_13 : decode cX10_scoreOf 13 = .ok (.if_icmp .ge 140, 3) := by decide +kernel
theorem dX10_scoreOf_16 : decode cX10_scoreOf 16 = .ok (.aload_n 0, 1) := by decide +kernel
theorem dX10_scoreOf_17 : decode cX10_scoreOf 17 = .ok (.getfield 7, 3) := by decide +kernel
theorem dX10_scoreOf_20 : decode cX10_scoreOf 20 = .ok (.iload 4, 2) := by decide +kernel
theorem dX10_scoreOf_22 : decode cX10_scoreOf 22 = .ok (.invokestatic 94, 3) := by decide +kernel
theorem dX10_scoreOf_25 : decode cX10_scoreOf 25 = .ok (.iconst 2, 1) := by decide +kernel
theorem dX10_scoreOf_26 : decode cX10_scoreOf 26 = .ok (.iadd, 1) := by decide +kernel
theorem dX10_scoreOf_27 : decode cX10_scoreOf 27 = .ok (.iaload, 1) := by decide +kernel
theorem dX10_scoreOf_28 : decode cX10_scoreOf 28 = .ok (.invokestatic 161, 3) := by decide +kernel
theorem dX10_scoreOf_31 : decode cX10_scoreOf 31 = .ok (.istore 5, 2) := by decide +kernel
theorem dX10_scoreOf_33 : decode cX10_scoreOf 33 = .ok (.iload 5, 2) := by decide +kernel
theorem dX10_scoreOf_35 : decode cX10_scoreOf 35 = .ok (.iload_n 1, 1) := by decide +kernel
theorem dX10_scoreOf_36 : decode cX10_scoreOf 36 = .ok (.invokestatic 161, 3) := by decide +kernel
theorem dX10_scoreOf_39 : decode cX10_scoreOf 39 = .ok (.if_icmp .ne 7, 3) := by decide +kernel
theorem dX10_scoreOf_42 : decode cX10_scoreOf 42 = .ok (.iconst 1, 1) := by decide +kernel
theorem dX10_scoreOf_43 : decode cX10_scoreOf 43 = .ok (.goto 4, 3) := by decide +kernel
theorem dX10_scoreOf_46 : decode cX10_scoreOf 46 = .ok (.iconst 0, 1) := by decide +kernel
theorem dX10_scoreOf_47 : decode cX10_scoreOf 47 = .ok (.istore 6, 2) := by decide +kernel
theorem dX10_scoreOf_49 : decode cX10_scoreOf 49 = .ok (.iload_n 3, 1) := by decide +kernel
theorem dX10_scoreOf_50 : decode cX10_scoreOf 50 = .ok (.iload_n 2, 1) := by decide +kernel
theorem dX10_scoreOf_51 : decode cX10_scoreOf 51 = .ok (.ifCond .eq 9, 3) := by decide +kernel
theorem dX10_scoreOf_54 : decode cX10_scoreOf 54 = .ok (.iload_n 1, 1) := by decide +kernel
theorem dX10_scoreOf_55 : decode cX10_scoreOf 55 = .ok (.iconst 3, 1) := by decide +kernel
theorem dX10_scoreOf_56 : decode cX10_scoreOf 56 = .ok (.isub, 1) := by decide +kernel
theorem dX10_scoreOf_57 : decode cX10_scoreOf 57 = .ok (.goto 4, 3) := by decide +kernel
theorem dX10_scoreOf_60 : decode cX10_scoreOf 60 = .ok (.iload_n 1, 1) := by decide +kernel
theorem dX10_scoreOf_61 : decode cX10_scoreOf 61 = .ok (.iload 5, 2) := by decide +kernel
theorem dX10_scoreOf_63 : decode cX10_scoreOf 63 = .ok (.invokestatic 174, 3) := by decide +kernel
theorem dX10_scoreOf_66 : decode cX10_scoreOf 66 = .ok (.ifCond .eq 7, 3) := by decide +kernel
theorem dX10_scoreOf_69 : decode cX10_scoreOf 69 = .ok (.iconst 2, 1) := by decide +kernel
theorem dX10_scoreOf_70 : decode cX10_scoreOf 70 = .ok (.goto 4, 3) := by decide +kernel
theorem dX10_scoreOf_73 : decode cX10_scoreOf 73 = .ok (.iconst 0, 1) := by decide +kernel
theorem dX10_scoreOf_74 : decode cX10_scoreOf 74 = .ok (.iadd, 1) := by decide +kernel
theorem dX10_scoreOf_75 : decode cX10_scoreOf 75 = .ok (.istore_n 3, 1) := by decide +kernel
theorem dX10_scoreOf_76 : decode cX10_scoreOf 76 = .ok (.iload_n 3, 1) := by decide +kernel
theorem dX10_scoreOf_77 : decode cX10_scoreOf 77 = .ok (.iload 6, 2) := by decide +kernel
theorem dX10_scoreOf_79 : decode cX10_scoreOf 79 = .ok (.ifCond .eq 7, 3) := by decide +kernel
theorem dX10_scoreOf_82 : decode cX10_scoreOf 82 = .ok (.iconst 1, 1) := by decide +kernel
theorem dX10_scoreOf_83 : decode cX10_scoreOf 83 = .ok (.goto 4, 3) := by decide +kernel
theorem dX10_scoreOf_86 : decode cX10_scoreOf 86 = .ok (.iconst 0, 1) := by decide +kernel
theorem dX10_scoreOf_87 : decode cX10_scoreOf 87 = .ok (.iadd, 1) := by decide +kernel
theorem dX10_scoreOf_88 : decode cX10_scoreOf 88 = .ok (.istore_n 3, 1) := by decide +kernel
theorem dX10_scoreOf_89 : decode cX10_scoreOf 89 = .ok (.iload_n 3, 1) := by decide +kernel
theorem dX10_scoreOf_90 : decode cX10_scoreOf 90 = .ok (.iload 6, 2) := by decide +kernel
theorem dX10_scoreOf_92 : decode cX10_scoreOf 92 = .ok (.ifCond .eq 26, 3) := by decide +kernel
theorem dX10_scoreOf_95 : decode cX10_scoreOf 95 = .ok (.aload_n 0, 1) := by decide +kernel
theorem dX10_scoreOf_96 : decode cX10_scoreOf 96 = .ok (.getfield 7, 3) := by decide +kernel
theorem dX10_scoreOf_99 : decode cX10_scoreOf 99 = .ok (.iload 4, 2) := by decide +kernel
theorem dX10_scoreOf_101 : decode cX10_scoreOf 101 = .ok (.invokestatic 94, 3) := by decide +kernel
theorem dX10_scoreOf_104 : decode cX10_scoreOf 104 = .ok (.iconst 3, 1) := by decide +kernel
theorem dX10_scoreOf_105 : decode cX10_scoreOf 105 = .ok (.iadd, 1) := by decide +kernel
theorem dX10_scoreOf_106 : decode cX10_scoreOf 106 = .ok (.iaload, 1) := by decide +kernel
theorem dX10_scoreOf_107 : decode cX10_scoreOf 107 = .ok (.invokestatic 181, 3) := by decide +kernel
theorem dX10_scoreOf_110 : decode cX10_scoreOf 110 = .ok (.iload_n 2, 1) := by decide +kernel
theorem dX10_scoreOf_111 : decode cX10_scoreOf 111 = .ok (.if_icmp .ne 7, 3) := by decide +kernel
theorem dX10_scoreOf_114 : decode cX10_scoreOf 114 = .ok (.iconst 1, 1) := by decide +kernel
theorem dX10_scoreOf_115 : decode cX10_scoreOf 115 = .ok (.goto 4, 3) := by decide +kernel
theorem dX10_scoreOf_118 : decode cX10_scoreOf 118 = .ok (.iconst 0, 1) := by decide +kernel
theorem dX10_scoreOf_119 : decode cX10_scoreOf 119 = .ok (.iadd, 1) := by decide +kernel
theorem dX10_scoreOf_120 : decode cX10_scoreOf 120 = .ok (.istore_n 3, 1) := by decide +kernel
theorem dX10_scoreOf_121 : decode cX10_scoreOf 121 = .ok (.iload_n 3, 1) := by decide +kernel
theorem dX10_scoreOf_122 : decode cX10_scoreOf 122 = .ok (.iload 6, 2) := by decide +kernel
theorem dX10_scoreOf_124 : decode cX10_scoreOf 124 = .ok (.ifCond .eq 20, 3) := by decide +kernel
theorem dX10_scoreOf_127 : decode cX10_scoreOf 127 = .ok (.iload 4, 2) := by decide +kernel
theorem dX10_scoreOf_129 : decode cX10_scoreOf 129 = .ok (.aload_n 0, 1) := by decide +kernel
theorem dX10_scoreOf_130 : decode cX10_scoreOf 130 = .ok (.getfield 7, 3) := by decide +kernel
theorem dX10_scoreOf_133 : decode cX10_scoreOf 133 = .ok (.iconst 1, 1) := by decide +kernel
theorem dX10_scoreOf_134 : decode cX10_scoreOf 134 = .ok (.iaload, 1) := by decide +kernel
theorem dX10_scoreOf_135 : decode cX10_scoreOf 135 = .ok (.iconst 1, 1) := by decide +kernel
theorem dX10_scoreOf_136 : decode cX10_scoreOf 136 = .ok (.isub, 1) := by decide +kernel
theorem dX10_scoreOf_137 : decode cX10_scoreOf 137 = .ok (.if_icmp .ne 7, 3) := by decide +kernel
theorem dX10_scoreOf_140 : decode cX10_scoreOf 140 = .ok (.iconst 2, 1) := by decide +kernel
theorem dX10_scoreOf_141 : decode cX10_scoreOf 141 = .ok (.goto 4, 3) := by decide +kernel
theorem dX10_scoreOf_144 : decode cX10_scoreOf 144 = .ok (.iconst 0, 1) := by decide +kernel
theorem dX10_scoreOf_145 : decode cX10_scoreOf 145 = .ok (.iadd, 1) := by decide +kernel
theorem dX10_scoreOf_146 : decode cX10_scoreOf 146 = .ok (.istore_n 3, 1) := by decide +kernel
theorem dX10_scoreOf_147 : decode cX10_scoreOf 147 = .ok (.iinc 4 1, 3) := by decide +kernel
theorem dX10_scoreOf_150 : decode cX10_scoreOf 150 = .ok (.goto (-145), 3) := by decide +kernel
theorem dX10_scoreOf_153 : decode cX10_scoreOf 153 = .ok (.iload_n 3, 1) := by decide +kernel
theorem dX10_scoreOf_154 : decode cX10_scoreOf 154 = .ok (.ireturn, 1) := by decide +kernel
theorem dX10_score_0 : decode cX10_score 0 = .ok (.aload_n 0, 1) := by decide +kernel
theorem dX10_score_1 : decode cX10_score 1 = .ok (.iconst 0, 1) := by decide +kernel
theorem dX10_score_2 : decode cX10_score 2 = .ok (.putfield 46, 3) := by decide +kernel
theorem dX10_score_5 : decode cX10_score 5 = .ok (.iload_n 1, 1) := by decide +kernel
theorem dX10_score_6 : decode cX10_score 6 = .ok (.iload_n 2, 1) := by decide +kernel
theorem dX10_score_7 : decode cX10_score 7 = .ok (.invokestatic 177, 3) := by decide +kernel
theorem dX10_score_10 : decode cX10_score 10 = .ok (.ifCond .eq 12, 3) := by decide +kernel
theorem dX10_score_13 : decode cX10_score 13 = .ok (.aload_n 0, 1) := by decide +kernel
theorem dX10_score_14 : decode cX10_score 14 = .ok (.iload_n 1, 1) := by decide +kernel
theorem dX10_score_15 : decode cX10_score 15 = .ok (.iload_n 2, 1) := by decide +kernel
theorem dX10_score_16 : decode cX10_score 16 = .ok (.invokevirtual 184, 3) := by decide +kernel
theorem dX10_score_19 : decode cX10_score 19 = .ok (.goto 8, 3) := by decide +kernel
theorem dX10_score_22 : decode cX10_score 22 = .ok (.aload_n 0, 1) := by decide +kernel
theorem dX10_score_23 : decode cX10_score 23 = .ok (.iconst 1, 1) := by decide +kernel
theorem dX10_score_24 : decode cX10_score 24 = .ok (.invokevirtual 101, 3) := by decide +kernel
theorem dX10_score_27 : decode cX10_score 27 = .ok (.ireturn, 1) := by decide +kernel
theorem dX10_found_0 : decode cX10_found 0 = .ok (.iconst 0, 1) := by decide +kernel
theorem dX10_found_1 : decode cX10_found 1 = .ok (.istore_n 1, 1) := by decide +kernel
theorem dX10_found_2 : decode cX10_found 2 = .ok (.aload_n 0, 1) := by decide +kernel
theorem dX10_found_3 : decode cX10_found 3 = .ok (.iconst 0, 1) := by decide +kernel
theorem dX10_found_4 : decode cX10_found 4 = .ok (.iconst 0, 1) := by decide +kernel
theorem dX10_found_5 : decode cX10_found 5 = .ok (.invokevirtual 184, 3) := by decide +kernel
theorem dX10_found_8 : decode cX10_found 8 = .ok (.istore_n 2, 1) := by decide +kernel
theorem dX10_found_9 : decode cX10_found 9 = .ok (.iconst 0, 1) := by decide +kernel
theorem dX10_found_10 : decode cX10_found 10 = .ok (.istore_n 3, 1) := by decide +kernel
theorem dX10_found_11 : decode cX10_found 11 = .ok (.iload_n 3, 1) := by decide +kernel
theorem dX10_found_12 : decode cX10_found 12 = .ok (.iconst 2, 1) := by decide +kernel
theorem dX10_found_13 : decode cX10_found 13 = .ok (.if_icmp .ge 92, 3) := by decide +kernel
theorem dX10_found_16 : decode cX10_found 16 = .ok (.iconst 0, 1) := by decide +kernel
theorem dX10_found_17 : decode cX10_found 17 = .ok (.istore 4, 2) := by decide +kernel
theorem dX10_found_19 : decode cX10_found 19 = .ok (.iload 4, 2) := by decide +kernel
theorem dX10_found_21 : decode cX10_found 21 = .ok (.bipush 12, 2) := by decide +kernel
theorem dX10_found_23 : decode cX10_found 23 = .ok (.if_icmp .gt 76, 3) := by decide +kernel
theorem dX10_found_26 : decode cX10_found 26 = .ok (.iload 4, 2) := by decide +kernel
theorem dX10_found_28 : decode cX10_found 28 = .ok (.iconst 2, 1) := by decide +kernel
theorem dX10_found_29 : decode cX10_found 29 = .ok (.irem, 1) := by decide +kernel
theorem dX10_found_30 : decode cX10_found 30 = .ok (.iconst 1, 1) := by decide +kernel
theorem dX10_found_31 : decode cX10_found 31 = .ok (.if_icmp .ne 12, 3) := by decide +kernel
theorem dX10_found_34 : decode cX10_found 34 = .ok (.iload 4, 2) := by decide +kernel
theorem dX10_found_36 : decode cX10_found 36 = .ok (.iconst 2, 1) := by decide +kernel
theorem dX10_found_37 : decode cX10_found 37 = .ok (.idiv, 1) := by decide +kernel
theorem dX10_found_38 : decode cX10_found 38 = .ok (.iconst 1, 1) := by decide +kernel
theorem dX10_found_39 : decode cX10_found 39 = .ok (.iadd, 1) := by decide +kernel
theorem dX10_found_40 : decode cX10_found 40 = .ok (.goto 8, 3) := by decide +kernel
theorem dX10_found_43 : decode cX10_found 43 = .ok (.iload 4, 2) := by decide +kernel
theorem dX10_found_45 : decode cX10_found 45 = .ok (.iconst 2, 1) := by decide +kernel
theorem dX10_found_46 : decode cX10_found 46 = .ok (.idiv, 1) := by decide +kernel
theorem dX10_found_47 : decode cX10_found 47 = .ok (.ineg, 1) := by decide +kernel
theorem dX10_found_48 : decode cX10_found 48 = .ok (.istore 5, 2) := by decide +kernel
theorem dX10_found_50 : decode cX10_found 50 = .ok (.iload 5, 2) := by decide +kernel
theorem dX10_found_52 : decode cX10_found 52 = .ok (.iconst 3, 1) := by decide +kernel
theorem dX10_found_53 : decode cX10_found 53 = .ok (.iload_n 3, 1) := by decide +kernel
theorem dX10_found_54 : decode cX10_found 54 = .ok (.imul, 1) := by decide +kernel
theorem dX10_found_55 : decode cX10_found 55 = .ok (.iadd, 1) := by decide +kernel
theorem dX10_found_56 : decode cX10_found 56 = .ok (.istore 6, 2) := by decide +kernel
theorem dX10_found_58 : decode cX10_found 58 = .ok (.aload_n 0, 1) := by decide +kernel
theorem dX10_found_59 : decode cX10_found 59 = .ok (.iload 6, 2) := by decide +kernel
theorem dX10_found_61 : decode cX10_found 61 = .ok (.iload_n 3, 1) := by decide +kernel
theorem dX10_found_62 : decode cX10_found 62 = .ok (.iconst 1, 1) := by decide +kernel
theorem dX10_found_63 : decode cX10_found 63 = .ok (.if_icmp .ne 7, 3) := by decide +kernel
theorem dX10_found_66 : decode cX10_found 66 = .ok (.iconst 1, 1) := by decide +kernel
theorem dX10_found_67 : decode cX10_found 67 = .ok (.goto 4, 3) := by decide +kernel
theorem dX10_found_70 : decode cX10_found 70 = .ok (.iconst 0, 1) := by decide +kernel
theorem dX10_found_71 : decode cX10_found 71 = .ok (.invokevirtual 184, 3) := by decide +kernel
theorem dX10_found_74 : decode cX10_found 74 = .ok (.istore 7, 2) := by decide +kernel
theorem dX10_found_76 : decode cX10_found 76 = .ok (.iload 7, 2) := by decide +kernel
theorem dX10_found_78 : decode cX10_found 78 = .ok (.iload_n 2, 1) := by decide +kernel
theorem dX10_found_79 : decode cX10_found 79 = .ok (.if_icmp .le 14, 3) := by decide +kernel
theorem dX10_found_82 : decode cX10_found 82 = .ok (.iload 7, 2) := by decide +kernel
theorem dX10_found_84 : decode cX10_found 84 = .ok (.istore_n 2, 1) := by decide +kernel
theorem dX10_found_85 : decode cX10_found 85 = .ok (.iload 6, 2) := by decide +kernel
theorem dX10_found_87 : decode cX10_found 87 = .ok (.bipush 100, 2) := by decide +kernel
theorem dX10_found_89 : decode cX10_found 89 = .ok (.iload_n 3, 1) := by decide +kernel
theorem dX10_found_90 : decode cX10_found 90 = .ok (.imul, 1) := by decide +kernel
theorem dX10_found_91 : decode cX10_found 91 = .ok (.iadd, 1) := by decide +kernel
theorem dX10_found_92 : decode cX10_found 92 = .ok (.istore_n 1, 1) := by decide +kernel
theorem dX10_found_93 : decode cX10_found 93 = .ok (.iinc 4 1, 3) := by decide +kernel
theorem dX10_found_96 : decode cX10_found 96 = .ok (.goto (-77), 3) := by decide +kernel
theorem dX10_found_99 : decode cX10_found 99 = .ok (.iinc 3 1, 3) := by decide +kernel
theorem dX10_found_102 : decode cX10_found 102 = .ok (.goto (-91), 3) := by decide +kernel
theorem dX10_found_105 : decode cX10_found 105 = .ok (.iload_n 1, 1) := by decide +kernel
theorem dX10_found_106 : decode cX10_found 106 = .ok (.ireturn, 1) := by decide +kernel
theorem dX10_findKey_0 : decode cX10_findKey 0 = .ok (.aload_n 0, 1) := by decide +kernel
theorem dX10_findKey_1 : decode cX10_findKey 1 = .ok (.iconst 0, 1) := by decide +kernel
theorem dX10_findKey_2 : decode cX10_findKey 2 = .ok (.putfield 46, 3) := by decide +kernel
theorem dX10_findKey_5 : decode cX10_findKey 5 = .ok (.aload_n 0, 1) := by decide +kernel
theorem dX10_findKey_6 : decode cX10_findKey 6 = .ok (.invokevirtual 110, 3) := by decide +kernel
theorem dX10_findKey_9 : decode cX10_findKey 9 = .ok (.ireturn, 1) := by decide +kernel
theorem dX10_spelled_0 : decode cX10_spelled 0 = .ok (.aload_n 0, 1) := by decide +kernel
theorem dX10_spelled_1 : decode cX10_spelled 1 = .ok (.invokevirtual 171, 3) := by decide +kernel
theorem dX10_spelled_4 : decode cX10_spelled 4 = .ok (.iconst 3, 1) := by decide +kernel
theorem dX10_spelled_5 : decode cX10_spelled 5 = .ok (.isub, 1) := by decide +kernel
theorem dX10_spelled_6 : decode cX10_spelled 6 = .ok (.istore_n 2, 1) := by decide +kernel
theorem dX10_spelled_7 : decode cX10_spelled 7 = .ok (.iload_n 2, 1) := by decide +kernel
theorem dX10_spelled_8 : decode cX10_spelled 8 = .ok (.invokestatic 161, 3) := by decide +kernel
theorem dX10_spelled_11 : decode cX10_spelled 11 = .ok (.iload_n 1, 1) := by decide +kernel
theorem dX10_spelled_12 : decode cX10_spelled 12 = .ok (.if_icmp .eq 9, 3) := by decide +kernel
theorem dX10_spelled_15 : decode cX10_spelled 15 = .ok (.iinc 2 1, 3) := by decide +kernel
theorem dX10_spelled_18 : decode cX10_spelled 18 = .ok (.goto (-11), 3) := by decide +kernel
theorem dX10_spelled_21 : decode cX10_spelled 21 = .ok (.aload_n 0, 1) := by decide +kernel
theorem dX10_spelled_22 : decode cX10_spelled 22 = .ok (.getfield 19, 3) := by decide +kernel
theorem dX10_spelled_25 : decode cX10_spelled 25 = .ok (.ifCond .eq 30, 3) := by decide +kernel
theorem dX10_spelled_28 : decode cX10_spelled 28 = .ok (.iload_n 2, 1) := by decide +kernel
theorem dX10_spelled_29 : decode cX10_spelled 29 = .ok (.bipush (-8), 2) := by decide +kernel
theorem dX10_spelled_31 : decode cX10_spelled 31 = .ok (.bipush 12, 2) := by decide +kernel
theorem dX10_spelled_33 : decode cX10_spelled 33 = .ok (.invokestatic 97, 3) := by decide +kernel
theorem dX10_spelled_36 : decode cX10_spelled 36 = .ok (.ifCond .ne 19, 3) := by decide +kernel
theorem dX10_spelled_39 : decode cX10_spelled 39 = .ok (.iconst (-1), 1) := by decide +kernel
theorem dX10_spelled_40 : decode cX10_spelled 40 = .ok (.istore_n 2, 1) := by decide +kernel
theorem dX10_spelled_41 : decode cX10_spelled 41 = .ok (.iload_n 2, 1) := by decide +kernel
theorem dX10_spelled_42 : decode cX10_spelled 42 = .ok (.invokestatic 161, 3) := by decide +kernel
theorem dX10_spelled_45 : decode cX10_spelled 45 = .ok (.iload_n 1, 1) := by decide +kernel
theorem dX10_spelled_46 : decode cX10_spelled 46 = .ok (.if_icmp .eq 9, 3) := by decide +kernel
theorem dX10_spelled_49 : decode cX10_spelled 49 = .ok (.iinc 2 1, 3) := by decide +kernel
theorem dX10_spelled_52 : decode cX10_spelled 52 = .ok (.goto (-11), 3) := by decide +kernel
theorem dX10_spelled_55 : decode cX10_spelled 55 = .ok (.iload_n 2, 1) := by decide +kernel
theorem dX10_spelled_56 : decode cX10_spelled 56 = .ok (.ireturn, 1) := by decide +kernel
theorem dX10_spells_0 : decode cX10_spells 0 = .ok (.iconst 0, 1) := by decide +kernel
theorem dX10_spells_1 : decode cX10_spells 1 = .ok (.istore_n 2, 1) := by decide +kernel
theorem dX10_spells_2 : decode cX10_spells 2 = .ok (.iconst 0, 1) := by decide +kernel
theorem dX10_spells_3 : decode cX10_spells 3 = .ok (.istore_n 3, 1) := by decide +kernel
theorem dX10_spells_4 : decode cX10_spells 4 = .ok (.iload_n 3, 1) := by decide +kernel
theorem dX10_spells_5 : decode cX10_spells 5 = .ok (.aload_n 0, 1) := by decide +kernel
theorem dX10_spells_6 : decode cX10_spells 6 = .ok (.getfield 7, 3) := by decide +kernel
theorem dX10_spells_9 : decode cX10_spells 9 = .ok (.iconst 1, 1) := by decide +kernel
theorem dX10_spells_10 : decode cX10_spells 10 = .ok (.iaload, 1) := by decide +kernel
theorem dX10_spells_11 : decode cX10_spells 11 = .ok (.if_icmp .ge 102, 3) := by decide +kernel
theorem dX10_spells_14 : decode cX10_spells 14 = .ok (.iconst 2, 1) := by decide +kernel
theorem dX10_spells_15 : decode cX10_spells 15 = .ok (.istore 4, 2) := by decide +kernel
theorem dX10_spells_17 : decode cX10_spells 17 = .ok (.iload 4, 2) := by decide +kernel
theorem dX10_spells_19 : decode cX10_spells 19 = .ok (.iconst 4, 1) := by decide +kernel
theorem dX10_spells_20 : decode cX10_spells 20 = .ok (.if_icmp .gt 87, 3) := by decide +kernel
theorem dX10_spells_23 : decode cX10_spells 23 = .ok (.aload_n 0, 1) := by decide +kernel
theorem dX10_spells_24 : decode cX10_spells 24 = .ok (.getfield 7, 3) := by decide +kernel
theorem dX10_spells_27 : decode cX10_spells 27 = .ok (.iload_n 3, 1) := by decide +kernel
theorem dX10_spells_28 : decode cX10_spells 28 = .ok (.invokestatic 94, 3) := by decide +kernel
theorem dX10_spells_31 : decode cX10_spells 31 = .ok (.iload 4, 2) := by decide +kernel
theorem dX10_spells_33 : decode cX10_spells 33 = .ok (.iadd, 1) := by decide +kernel
theorem dX10_spells_34 : decode cX10_spells 34 = .ok (.iaload, 1) := by decide +kernel
theorem dX10_spells_35 : decode cX10_spells 35 = .ok (.istore 5, 2) := by decide +kernel
theorem dX10_spells_37 : decode cX10_spells 37 = .ok (.iload 4, 2) := by decide +kernel
theorem dX10_spells_39 : decode cX10_spells 39 = .ok (.iconst 2, 1) := by decide +kernel
theorem dX10_spells_40 : decode cX10_spells 40 = .ok (.if_icmp .eq 10, 3) := by decide +kernel
theorem dX10_spells_43 : decode cX10_spells 43 = .ok (.iload 5, 2) := by decide +kernel
theorem dX10_spells_45 : decode cX10_spells 45 = .ok (.bipush 100, 2) := by decide +kernel
theorem dX10_spells_47 : decode cX10_spells 47 = .ok (.if_icmp .eq 54, 3) := by decide +kernel
theorem dX10_spells_50 : decode cX10_spells 50 = .ok (.aload_n 0, 1) := by decide +kernel
theorem dX10_spells_51 : decode cX10_spells 51 = .ok (.getfield 7, 3) := by decide +kernel
theorem dX10_spells_54 : decode cX10_spells 54 = .ok (.iload_n 3, 1) := by decide +kernel
theorem dX10_spells_55 : decode cX10_spells 55 = .ok (.invokestatic 94, 3) := by decide +kernel
theorem dX10_spells_58 : decode cX10_spells 58 = .ok (.iload 4, 2) := by decide +kernel
theorem dX10_spells_60 : decode cX10_spells 60 = .ok (.iadd, 1) := by decide +kernel
theorem dX10_spells_61 : decode cX10_spells 61 = .ok (.aload_n 0, 1) := by decide +kernel
theorem dX10_spells_62 : decode cX10_spells 62 = .ok (.iload 5, 2) := by decide +kernel
theorem dX10_spells_64 : decode cX10_spells 64 = .ok (.invokestatic 161, 3) := by decide +kernel
theorem dX10_spells_67 : decode cX10_spells 67 = .ok (.iload_n 1, 1) := by decide +kernel
theorem dX10_spells_68 : decode cX10_spells 68 = .ok (.iadd, 1) := by decide +kernel
theorem dX10_spells_69 : decode cX10_spells 69 = .ok (.invokestatic 52, 3) := by decide +kernel
theorem dX10_spells_72 : decode cX10_spells 72 = .ok (.invokevirtual 188, 3) := by decide +kernel
theorem dX10_spells_75 : decode cX10_spells 75 = .ok (.iastore, 1) := by decide +kernel
theorem dX10_spells_76 : decode cX10_spells 76 = .ok (.iload_n 2, 1) := by decide +kernel
theorem dX10_spells_77 : decode cX10_spells 77 = .ok (.aload_n 0, 1) := by decide +kernel
theorem dX10_spells_78 : decode cX10_spells 78 = .ok (.getfield 7, 3) := by decide +kernel
theorem dX10_spells_81 : decode cX10_spells 81 = .ok (.iload_n 3, 1) := by decide +kernel
theorem dX10_spells_82 : decode cX10_spells 82 = .ok (.invokestatic 94, 3) := by decide +kernel
theorem dX10_spells_85 : decode cX10_spells 85 = .ok (.iload 4, 2) := by decide +kernel
theorem dX10_spells_87 : decode cX10_spells 87 = .ok (.iadd, 1) := by decide +kernel
theorem dX10_spells_88 : decode cX10_spells 88 = .ok (.iaload, 1) := by decide +kernel
theorem dX10_spells_89 : decode cX10_spells 89 = .ok (.iload 5, 2) := by decide +kernel
theorem dX10_spells_91 : decode cX10_spells 91 = .ok (.if_icmp .eq 7, 3) := by decide +kernel
theorem dX10_spells_94 : decode cX10_spells 94 = .ok (.iconst 1, 1) := by decide +kernel
theorem dX10_spells_95 : decode cX10_spells 95 = .ok (.goto 4, 3) := by decide +kernel
theorem dX10_spells_98 : decode cX10_spells 98 = .ok (.iconst 0, 1) := by decide +kernel
theorem dX10_spells_99 : decode cX10_spells 99 = .ok (.iadd, 1) := by decide +kernel
theorem dX10_spells_100 : decode cX10_spells 100 = .ok (.istore_n 2, 1) := by decide +kernel
theorem dX10_spells_101 : decode cX10_spells 101 = .ok (.iinc 4 2, 3) := by decide +kernel
theorem dX10_spells_104 : decode cX10_spells 104 = .ok (.goto (-87), 3) := by decide +kernel
theorem dX10_spells_107 : decode cX10_spells 107 = .ok (.iinc 3 1, 3) := by decide +kernel
theorem dX10_spells_110 : decode cX10_spells 110 = .ok (.goto (-106), 3) := by decide +kernel
theorem dX10_spells_113 : decode cX10_spells 113 = .ok (.iload_n 2, 1) := by decide +kernel
theorem dX10_spells_114 : decode cX10_spells 114 = .ok (.ireturn, 1) := by decide +kernel
theorem dX10_transpose_0 : decode cX10_transpose 0 = .ok (.aload_n 0, 1) := by decide +kernel
theorem dX10_transpose_1 : decode cX10_transpose 1 = .ok (.iconst 0, 1) := by decide +kernel
theorem dX10_transpose_2 : decode cX10_transpose 2 = .ok (.putfield 46, 3) := by decide +kernel
theorem dX10_transpose_5 : decode cX10_transpose 5 = .ok (.iload_n 1, 1) := by decide +kernel
theorem dX10_transpose_6 : decode cX10_transpose 6 = .ok (.bipush (-11), 2) := by decide +kernel
theorem dX10_transpose_8 : decode cX10_transpose 8 = .ok (.bipush 11, 2) := by decide +kernel
theorem dX10_transpose_10 : decode cX10_transpose 10 = .ok (.invokestatic 97, 3) := by decide +kernel
theorem dX10_transpose_13 : decode cX10_transpose 13 = .ok (.ifCond .ne 9, 3) := by decide +kernel
theorem dX10_transpose_16 : decode cX10_transpose 16 = .ok (.aload_n 0, 1) := by decide +kernel
theorem dX10_transpose_17 : decode cX10_transpose 17 = .ok (.iconst 1, 1) := by decide +kernel
theorem dX10_transpose_18 : decode cX10_transpose 18 = .ok (.invokevirtual 101, 3) := by decide +kernel
theorem dX10_transpose_21 : decode cX10_transpose 21 = .ok (.ireturn, 1) := by decide +kernel
theorem dX10_transpose_22 : decode cX10_transpose 22 = .ok (.aload_n 0, 1) := by decide +kernel
theorem dX10_transpose_23 : decode cX10_transpose 23 = .ok (.invokevirtual 107, 3) := by decide +kernel
theorem dX10_transpose_26 : decode cX10_transpose 26 = .ok (.aload_n 0, 1) := by decide +kernel
theorem dX10_transpose_27 : decode cX10_transpose 27 = .ok (.getfield 7, 3) := by decide +kernel
theorem dX10_transpose_30 : decode cX10_transpose 30 = .ok (.iconst 2, 1) := by decide +kernel
theorem dX10_transpose_31 : decode cX10_transpose 31 = .ok (.iaload, 1) := by decide +kernel
theorem dX10_transpose_32 : decode cX10_transpose 32 = .ok (.invokestatic 161, 3) := by decide +kernel
theorem dX10_transpose_35 : decode cX10_transpose 35 = .ok (.iload_n 1, 1) := by decide +kernel
theorem dX10_transpose_36 : decode cX10_transpose 36 = .ok (.iadd, 1) := by decide +kernel
theorem dX10_transpose_37 : decode cX10_transpose 37 = .ok (.invokestatic 52, 3) := by decide +kernel
theorem dX10_transpose_40 : decode cX10_transpose 40 = .ok (.istore_n 2, 1) := by decide +kernel
theorem dX10_transpose_41 : decode cX10_transpose 41 = .ok (.bipush 100, 2) := by decide +kernel
theorem dX10_transpose_43 : decode cX10_transpose 43 = .ok (.istore_n 3, 1) := by decide +kernel
theorem dX10_transpose_44 : decode cX10_transpose 44 = .ok (.iconst 0, 1) := by decide +kernel
theorem dX10_transpose_45 : decode cX10_transpose 45 = .ok (.istore 4, 2) := by decide +kernel
theorem dX10_transpose_47 : decode cX10_transpose 47 = .ok (.iload 4, 2) := by decide +kernel
theorem dX10_transpose_49 : decode cX10_transpose 49 = .ok (.bipush 12, 2) := by decide +kernel
theorem dX10_transpose_51 : decode cX10_transpose 51 = .ok (.if_icmp .gt 108, 3) := by decide +kernel
theorem dX10_transpose_54 : decode cX10_transpose 54 = .ok (.iload 4, 2) := by decide +kernel
theorem dX10_transpose_56 : decode cX10_transpose 56 = .ok (.iconst 2, 1) := by decide +kernel
theorem dX10_transpose_57 : decode cX10_transpose 57 = .ok (.irem, 1) := by decide +kernel
theorem dX10_transpose_58 : decode cX10_transpose 58 = .ok (.iconst 1, 1) := by decide +kernel
theorem dX10_transpose_59 : decode cX10_transpose 59 = .ok (.if_icmp .ne 12, 3) := by decide +kernel
theorem dX10_transpose_62 : decode cX10_transpose 62 = .ok (.iload 4, 2) := by decide +kernel
theorem dX10_transpose_64 : decode cX10_transpose 64 = .ok (.iconst 2, 1) := by decide +kernel
theorem dX10_transpose_65 : decode cX10_transpose 65 = .ok (.idiv, 1) := by decide +kernel
theorem dX10_transpose_66 : decode cX10_transpose 66 = .ok (.iconst 1, 1) := by decide +kernel
theorem dX10_transpose_67 : decode cX10_transpose 67 = .ok (.iadd, 1) := by decide +kernel
theorem dX10_transpose_68 : decode cX10_transpose 68 = .ok (.goto 8, 3) := by decide +kernel
theorem dX10_transpose_71 : decode cX10_transpose 71 = .ok (.iload 4, 2) := by decide +kernel
theorem dX10_transpose_73 : decode cX10_transpose 73 = .ok (.iconst 2, 1) := by decide +kernel
theorem dX10_transpose_74 : decode cX10_transpose 74 = .ok (.idiv, 1) := by decide +kernel
theorem dX10_transpose_75 : decode cX10_transpose 75 = .ok (.ineg, 1) := by decide +kernel
theorem dX10_transpose_76 : decode cX10_transpose 76 = .ok (.istore 5, 2) := by decide +kernel
theorem dX10_transpose_78 : decode cX10_transpose 78 = .ok (.iload 5, 2) := by decide +kernel
theorem dX10_transpose_80 : decode cX10_transpose 80 = .ok (.iconst 3, 1) := by decide +kernel
theorem dX10_transpose_81 : decode cX10_transpose 81 = .ok (.aload_n 0, 1) := by decide +kernel
theorem dX10_transpose_82 : decode cX10_transpose 82 = .ok (.getfield 7, 3) := by decide +kernel
theorem dX10_transpose_85 : decode cX10_transpose 85 = .ok (.iconst 3, 1) := by decide +kernel
theorem dX10_transpose_86 : decode cX10_transpose 86 = .ok (.iaload, 1) := by decide +kernel
theorem dX10_transpose_87 : decode cX10_transpose 87 = .ok (.imul, 1) := by decide +kernel
theorem dX10_transpose_88 : decode cX10_transpose 88 = .ok (.iadd, 1) := by decide +kernel
theorem dX10_transpose_89 : decode cX10_transpose 89 = .ok (.invokestatic 161, 3) := by decide +kernel
theorem dX10_transpose_92 : decode cX10_transpose 92 = .ok (.iload_n 2, 1) := by decide +kernel
theorem dX10_transpose_93 : decode cX10_transpose 93 = .ok (.if_icmp .ne 7, 3) := by decide +kernel
theorem dX10_transpose_96 : decode cX10_transpose 96 = .ok (.iconst 1, 1) := by decide +kernel
theorem dX10_transpose_97 : decode cX10_transpose 97 = .ok (.goto 4, 3) := by decide +kernel
theorem dX10_transpose_100 : decode cX10_transpose 100 = .ok (.iconst 0, 1) := by decide +kernel
theorem dX10_transpose_101 : decode cX10_transpose 101 = .ok (.istore 6, 2) := by decide +kernel
theorem dX10_transpose_103 : decode cX10_transpose 103 = .ok (.iload_n 3, 1) := by decide +kernel
theorem dX10_transpose_104 : decode cX10_transpose 104 = .ok (.bipush 100, 2) := by decide +kernel
theorem dX10_transpose_106 : decode cX10_transpose 106 = .ok (.if_icmp .eq 23, 3) := by decide +kernel
theorem dX10_transpose_109 : decode cX10_transpose 109 = .ok (.iload 5, 2) := by decide +kernel
theorem dX10_transpose_111 : decode cX10_transpose 111 = .ok (.bipush (-6), 2) := by decide +kernel
theorem dX10_transpose_113 : decode cX10_transpose 113 = .ok (.if_icmp .ne 20, 3) := by decide +kernel
theorem dX10_transpose_116 : decode cX10_transpose 116 = .ok (.iload_n 3, 1) := by decide +kernel
theorem dX10_transpose_117 : decode cX10_transpose 117 = .ok (.bipush 6, 2) := by decide +kernel
theorem dX10_transpose_119 : decode cX10_transpose 119 = .ok (.if_icmp .ne 14, 3) := by decide +kernel
theorem dX10_transpose_122 : decode cX10_transpose 122 = .ok (.aload_n 0, 1) := by decide +kernel
theorem dX10_transpose_123 : decode cX10_transpose 123 = .ok (.getfield 114, 3) := by decide +kernel
theorem dX10_transpose_126 : decode cX10_transpose 126 = .ok (.ifCond .eq 7, 3) := by decide +kernel
theorem dX10_transpose_129 : decode cX10_transpose 129 = .ok (.iconst 1, 1) := by decide +kernel
theorem dX10_transpose_130 : decode cX10_transpose 130 = .ok (.goto 4, 3) := by decide +kernel
theorem dX10_transpose_133 : decode cX10_transpose 133 = .ok (.iconst 0, 1) := by decide +kernel
theorem dX10_transpose_134 : decode cX10_transpose 134 = .ok (.istore 7, 2) := by decide +kernel
theorem dX10_transpose_136 : decode cX10_transpose 136 = .ok (.iload 6, 2) := by decide +kernel
theorem dX10_transpose_138 : decode cX10_transpose 138 = .ok (.ifCond .eq 13, 3) := by decide +kernel
theorem dX10_transpose_141 : decode cX10_transpose 141 = .ok (.iload 7, 2) := by decide +kernel
theorem dX10_transpose_143 : decode cX10_transpose 143 = .ok (.ifCond .eq 8, 3) := by decide +kernel
theorem dX10_transpose_146 : decode cX10_transpose 146 = .ok (.iload 5, 2) := by decide +kernel
theorem dX10_transpose_148 : decode cX10_transpose 148 = .ok (.goto 4, 3) := by decide +kernel
theorem dX10_transpose_151 : decode cX10_transpose 151 = .ok (.iload_n 3, 1) := by decide +kernel
theorem dX10_transpose_152 : decode cX10_transpose 152 = .ok (.istore_n 3, 1) := by decide +kernel
theorem dX10_transpose_153 : decode cX10_transpose 153 = .ok (.iinc 4 1, 3) := by decide +kernel
theorem dX10_transpose_156 : decode cX10_transpose 156 = .ok (.goto (-109), 3) := by decide +kernel
theorem dX10_transpose_159 : decode cX10_transpose 159 = .ok (.aload_n 0, 1) := by decide +kernel
theorem dX10_transpose_160 : decode cX10_transpose 160 = .ok (.getfield 7, 3) := by decide +kernel
theorem dX10_transpose_163 : decode cX10_transpose 163 = .ok (.iconst 2, 1) := by decide +kernel
theorem dX10_transpose_164 : decode cX10_transpose 164 = .ok (.iload_n 3, 1) := by decide +kernel
theorem dX10_transpose_165 : decode cX10_transpose 165 = .ok (.iconst 3, 1) := by decide +kernel
theorem dX10_transpose_166 : decode cX10_transpose 166 = .ok (.aload_n 0, 1) := by decide +kernel
theorem dX10_transpose_167 : decode cX10_transpose 167 = .ok (.getfield 7, 3) := by decide +kernel
theorem dX10_transpose_170 : decode cX10_transpose 170 = .ok (.iconst 3, 1) := by decide +kernel
theorem dX10_transpose_171 : decode cX10_transpose 171 = .ok (.iaload, 1) := by decide +kernel
theorem dX10_transpose_172 : decode cX10_transpose 172 = .ok (.imul, 1) := by decide +kernel
theorem dX10_transpose_173 : decode cX10_transpose 173 = .ok (.iadd, 1) := by decide +kernel
theorem dX10_transpose_174 : decode cX10_transpose 174 = .ok (.iastore, 1) := by decide +kernel
theorem dX10_transpose_175 : decode cX10_transpose 175 = .ok (.aload_n 0, 1) := by decide +kernel
theorem dX10_transpose_176 : decode cX10_transpose 176 = .ok (.iload_n 1, 1) := by decide +kernel
theorem dX10_transpose_177 : decode cX10_transpose 177 = .ok (.invokevirtual 191, 3) := by decide +kernel
theorem dX10_transpose_180 : decode cX10_transpose 180 = .ok (.istore 4, 2) := by decide +kernel
theorem dX10_transpose_182 : decode cX10_transpose 182 = .ok (.iload_n 3, 1) := by decide +kernel
theorem dX10_transpose_183 : decode cX10_transpose 183 = .ok (.ireturn, 1) := by decide +kernel
theorem dX10_respell_0 : decode cX10_respell 0 = .ok (.aload_n 0, 1) := by decide +kernel
theorem dX10_respell_1 : decode cX10_respell 1 = .ok (.iconst 0, 1) := by decide +kernel
theorem dX10_respell_2 : decode cX10_respell 2 = .ok (.putfield 46, 3) := by decide +kernel
theorem dX10_respell_5 : decode cX10_respell 5 = .ok (.aload_n 0, 1) := by decide +kernel
theorem dX10_respell_6 : decode cX10_respell 6 = .ok (.invokevirtual 107, 3) := by decide +kernel
theorem dX10_respell_9 : decode cX10_respell 9 = .ok (.aload_n 0, 1) := by decide +kernel
theorem dX10_respell_10 : decode cX10_respell 10 = .ok (.iconst 0, 1) := by decide +kernel
theorem dX10_respell_11 : decode cX10_respell 11 = .ok (.invokevirtual 191, 3) := by decide +kernel
theorem dX10_respell_14 : decode cX10_respell 14 = .ok (.ireturn, 1) := by decide +kernel
theorem dX10_isEasy_0 : decode cX10_isEasy 0 = .ok (.iload_n 0, 1) := by decide +kernel
theorem dX10_isEasy_1 : decode cX10_isEasy 1 = .ok (.bipush 9, 2) := by decide +kernel
theorem dX10_isEasy_3 : decode cX10_isEasy 3 = .ok (.if_icmp .eq 13, 3) := by decide +kernel
theorem dX10_isEasy_6 : decode cX10_isEasy 6 = .ok (.iload_n 0, 1) := by decide +kernel
theorem dX10_isEasy_7 : decode cX10_isEasy 7 = .ok (.iconst 2, 1) := by decide +kernel
theorem dX10_isEasy_8 : decode cX10_isEasy 8 = .ok (.if_icmp .eq 8, 3) := by decide +kernel
theorem dX10_isEasy_11 : decode cX10_isEasy 11 = .ok (.iload_n 0, 1) := by decide +kernel
theorem dX10_isEasy_12 : decode cX10_isEasy 12 = .ok (.iconst 4, 1) := by decide +kernel
theorem dX10_isEasy_13 : decode cX10_isEasy 13 = .ok (.if_icmp .ne 7, 3) := by decide +kernel
theorem dX10_isEasy_16 : decode cX10_isEasy 16 = .ok (.iconst 1, 1) := by decide +kernel
theorem dX10_isEasy_17 : decode cX10_isEasy 17 = .ok (.goto 4, 3) := by decide +kernel
theorem dX10_isEasy_20 : decode cX10_isEasy 20 = .ok (.iconst 0, 1) := by decide +kernel
theorem dX10_isEasy_21 : decode cX10_isEasy 21 = .ok (.istore_n 2, 1) := by decide +kernel
theorem dX10_isEasy_22 : decode cX10_isEasy 22 = .ok (.iload_n 1, 1) := by decide +kernel
theorem dX10_isEasy_23 : decode cX10_isEasy 23 = .ok (.iconst 1, 1) := by decide +kernel
theorem dX10_isEasy_24 : decode cX10_isEasy 24 = .ok (.if_icmp .eq 8, 3) := by decide +kernel
theorem dX10_isEasy_27 : decode cX10_isEasy 27 = .ok (.iload_n 1, 1) := by decide +kernel
theorem dX10_isEasy_28 : decode cX10_isEasy 28 = .ok (.iconst 3, 1) := by decide +kernel
theorem dX10_isEasy_29 : decode cX10_isEasy 29 = .ok (.if_icmp .ne 5, 3) := by decide +kernel
theorem dX10_isEasy_32 : decode cX10_isEasy 32 = .ok (.iload_n 2, 1) := by decide +kernel
theorem dX10_isEasy_33 : decode cX10_isEasy 33 = .ok (.ireturn, 1) := by decide +kernel
theorem dX10_isEasy_34 : decode cX10_isEasy 34 = .ok (.iload_n 1, 1) := by decide +kernel
theorem dX10_isEasy_35 : decode cX10_isEasy 35 = .ok (.ifCond .ne 17, 3) := by decide +kernel
theorem dX10_isEasy_38 : decode cX10_isEasy 38 = .ok (.iload_n 2, 1) := by decide +kernel
theorem dX10_isEasy_39 : decode cX10_isEasy 39 = .ok (.ifCond .ne 38, 3) := by decide +kernel
theorem dX10_isEasy_42 : decode cX10_isEasy 42 = .ok (.iload_n 0, 1) := by decide +kernel
theorem dX10_isEasy_43 : decode cX10_isEasy 43 = .ok (.ifCond .eq 34, 3) := by decide +kernel
theorem dX10_isEasy_46 : decode cX10_isEasy 46 = .ok (.iload_n 0, 1) := by decide +kernel
theorem dX10_isEasy_47 : decode cX10_isEasy 47 = .ok (.bipush 7, 2) := by decide +kernel
theorem dX10_isEasy_49 : decode cX10_isEasy 49 = .ok (.if_icmp .eq 28, 3) := by decide +kernel
theorem dX10_isEasy_52 : decode cX10_isEasy 52 = .ok (.iload_n 1, 1) := by decide +kernel
theorem dX10_isEasy_53 : decode cX10_isEasy 53 = .ok (.iconst 2, 1) := by decide +kernel
theorem dX10_isEasy_54 : decode cX10_isEasy 54 = .ok (.if_icmp .ne 27, 3) := by decide +kernel
theorem dX10_isEasy_57 : decode cX10_isEasy 57 = .ok (.iload_n 2, 1) := by decide +kernel
theorem dX10_isEasy_58 : decode cX10_isEasy 58 = .ok (.ifCond .ne 19, 3) := by decide +kernel
theorem dX10_isEasy_61 : decode cX10_isEasy 61 = .ok (.iload_n 0, 1) := by decide +kernel
theorem dX10_isEasy_62 : decode cX10_isEasy 62 = .ok (.ifCond .eq 15, 3) := by decide +kernel
theorem dX10_isEasy_65 : decode cX10_isEasy 65 = .ok (.iload_n 0, 1) := by decide +kernel
theorem dX10_isEasy_66 : decode cX10_isEasy 66 = .ok (.bipush 7, 2) := by decide +kernel
theorem dX10_isEasy_68 : decode cX10_isEasy 68 = .ok (.if_icmp .eq 9, 3) := by decide +kernel
theorem dX10_isEasy_71 : decode cX10_isEasy 71 = .ok (.iload_n 0, 1) := by decide +kernel
theorem dX10_isEasy_72 : decode cX10_isEasy 72 = .ok (.bipush 11, 2) := by decide +kernel
theorem dX10_isEasy_74 : decode cX10_isEasy 74 = .ok (.if_icmp .ne 7, 3) := by decide +kernel
theorem dX10_isEasy_77 : decode cX10_isEasy 77 = .ok (.iconst 1, 1) := by decide +kernel
theorem dX10_isEasy_78 : decode cX10_isEasy 78 = .ok (.goto 4, 3) := by decide +kernel
theorem dX10_isEasy_81 : decode cX10_isEasy 81 = .ok (.iconst 0, 1) := by decide +kernel
theorem dX10_isEasy_82 : decode cX10_isEasy 82 = .ok (.ireturn, 1) := by decide +kernel
theorem dX10_difficultyOf_0 : decode cX10_difficultyOf 0 = .ok (.iload_n 1, 1) := by decide +kernel
theorem dX10_difficultyOf_1 : decode cX10_difficultyOf 1 = .ok (.istore_n 2, 1) := by decide +kernel
theorem dX10_difficultyOf_2 : decode cX10_difficultyOf 2 = .ok (.iconst 0, 1) := by decide +kernel
theorem dX10_difficultyOf_3 : decode cX10_difficultyOf 3 = .ok (.istore_n 3, 1) := by decide +kernel
theorem dX10_difficultyOf_4 : decode cX10_difficultyOf 4 = .ok (.iconst (-1), 1) := by decide +kernel
theorem dX10_difficultyOf_5 : decode cX10_difficultyOf 5 = .ok (.istore 4, 2) := by decide +kernel
theorem dX10_difficultyOf_7 : decode cX10_difficultyOf 7 = .ok (.iconst 0, 1) := by decide +kernel
theorem dX10_difficultyOf_8 : decode cX10_difficultyOf 8 = .ok (.istore 5, 2) := by decide +kernel
theorem dX10_difficultyOf_10 : decode cX10_difficultyOf 10 = .ok (.iload 5, 2) := by decide +kernel
theorem dX10_difficultyOf_12 : decode cX10_difficultyOf 12 = .ok (.aload_n 0, 1) := by decide +kernel
theorem dX10_difficultyOf_13 : decode cX10_difficultyOf 13 = .ok (.getfield 7, 3) := by decide +kernel
theorem dX10_difficultyOf_16 : decode cX10_difficultyOf 16 = .ok (.iconst 1, 1) := by decide +kernel
theorem dX10_difficultyOf_17 : decode cX10_difficultyOf 17 = .ok (.iaload, 1) := by decide +kernel
theorem dX10_difficultyOf_18 : decode cX10_difficultyOf 18 = .ok (.if_icmp .ge 176, 3) := by decide +kernel
theorem dX10_difficultyOf_21 : decode cX10_difficultyOf 21 = .ok (.iload 5, 2) := by decide +kernel
theorem dX10_difficultyOf_23 : decode cX10_difficultyOf 23 = .ok (.invokestatic 94, 3) := by decide +kernel
theorem dX10_difficultyOf_26 : decode cX10_difficultyOf 26 = .ok (.istore 6, 2) := by decide +kernel
theorem dX10_difficultyOf_28 : decode cX10_difficultyOf 28 = .ok (.aload_n 0, 1) := by decide +kernel
theorem dX10_difficultyOf_29 : decode cX10_difficultyOf 29 = .ok (.getfield 7, 3) := by decide +kernel
theorem dX10_difficultyOf_32 : decode cX10_difficultyOf 32 = .ok (.iload 6, 2) := by decide +kernel
theorem dX10_difficultyOf_34 : decode cX10_difficultyOf 34 = .ok (.iconst 2, 1) := by decide +kernel
theorem dX10_difficultyOf_35 : decode cX10_difficultyOf 35 = .ok (.iadd, 1) := by decide +kernel
theorem dX10_difficultyOf_36 : decode cX10_difficultyOf 36 = .ok (.iaload, 1) := by decide +kernel
theorem dX10_difficultyOf_37 : decode cX10_difficultyOf 37 = .ok (.invokestatic 161, 3) := by decide +kernel
theorem dX10_difficultyOf_40 : decode cX10_difficultyOf 40 = .ok (.iload_n 1, 1) := by decide +kernel
theorem dX10_difficultyOf_41 : decode cX10_difficultyOf 41 = .ok (.isub, 1) := by decide +kernel
theorem dX10_difficultyOf_42 : decode cX10_difficultyOf 42 = .ok (.invokestatic 52, 3) := by decide +kernel
theorem dX10_difficultyOf_45 : decode cX10_difficultyOf 45 = .ok (.istore 7, 2) := by decide +kernel
theorem dX10_difficultyOf_47 : decode cX10_difficultyOf 47 = .ok (.iload 7, 2) := by decide +kernel
theorem dX10_difficultyOf_49 : decode cX10_difficultyOf 49 = .ok (.aload_n 0, 1) := by decide +kernel
theorem dX10_difficultyOf_50 : decode cX10_difficultyOf 50 = .ok (.getfield 7, 3) := by decide +kernel
theorem dX10_difficultyOf_53 : decode cX10_difficultyOf 53 = .ok (.iload 6, 2) := by decide +kernel
theorem dX10_difficultyOf_55 : decode cX10_difficultyOf 55 = .ok (.iconst 3, 1) := by decide +kernel
theorem dX10_difficultyOf_56 : decode cX10_difficultyOf 56 = .ok (.iadd, 1) := by decide +kernel
theorem dX10_difficultyOf_57 : decode cX10_difficultyOf 57 = .ok (.iaload, 1) := by decide +kernel
theorem dX10_difficultyOf_58 : decode cX10_difficultyOf 58 = .ok (.invokestatic 194, 3) := by decide +kernel
theorem dX10_difficultyOf_61 : decode cX10_difficultyOf 61 = .ok (.ifCond .ne 7, 3) := by decide +kernel
theorem dX10_difficultyOf_64 : decode cX10_difficultyOf 64 = .ok (.iconst 1, 1) := by decide +kernel
theorem dX10_difficultyOf_65 : decode cX10_difficultyOf 65 = .ok (.goto 4, 3) := by decide +kernel
theorem dX10_difficultyOf_68 : decode cX10_difficultyOf 68 = .ok (.iconst 0, 1) := by decide +kernel
theorem dX10_difficultyOf_69 : decode cX10_difficultyOf 69 = .ok (.istore 8, 2) := by decide +kernel
theorem dX10_difficultyOf_71 : decode cX10_difficultyOf 71 = .ok (.iload_n 2, 1) := by decide +kernel
theorem dX10_difficultyOf_72 : decode cX10_difficultyOf 72 = .ok (.iload 8, 2) := by decide +kernel
theorem dX10_difficultyOf_74 : decode cX10_difficultyOf 74 = .ok (.ifCond .eq 7, 3) := by decide +kernel
theorem dX10_difficultyOf_77 : decode cX10_difficultyOf 77 = .ok (.iconst 4, 1) := by decide +kernel
theorem dX10_difficultyOf_78 : decode cX10_difficultyOf 78 = .ok (.goto 4, 3) := by decide +kernel
theorem dX10_difficultyOf_81 : decode cX10_difficultyOf 81 = .ok (.iconst 1, 1) := by decide +kernel
theorem dX10_difficultyOf_82 : decode cX10_difficultyOf 82 = .ok (.aload_n 0, 1) := by decide +kernel
theorem dX10_difficultyOf_83 : decode cX10_difficultyOf 83 = .ok (.getfield 7, 3) := by decide +kernel
theorem dX10_difficultyOf_86 : decode cX10_difficultyOf 86 = .ok (.iload 6, 2) := by decide +kernel
theorem dX10_difficultyOf_88 : decode cX10_difficultyOf 88 = .ok (.iconst 3, 1) := by decide +kernel
theorem dX10_difficultyOf_89 : decode cX10_difficultyOf 89 = .ok (.iadd, 1) := by decide +kernel
theorem dX10_difficultyOf_90 : decode cX10_difficultyOf 90 = .ok (.iaload, 1) := by decide +kernel
theorem dX10_difficultyOf_91 : decode cX10_difficultyOf 91 = .ok (.iconst 3, 1) := by decide +kernel
theorem dX10_difficultyOf_92 : decode cX10_difficultyOf 92 = .ok (.if_icmp .le 7, 3) := by decide +kernel
theorem dX10_difficultyOf_95 : decode cX10_difficultyOf 95 = .ok (.iconst 1, 1) := by decide +kernel
theorem dX10_difficultyOf_96 : decode cX10_difficultyOf 96 = .ok (.goto 4, 3) := by decide +kernel
theorem dX10_difficultyOf_99 : decode cX10_difficultyOf 99 = .ok (.iconst 0, 1) := by decide +kernel
theorem dX10_difficultyOf_100 : decode cX10_difficultyOf 100 = .ok (.iadd, 1) := by decide +kernel
theorem dX10_difficultyOf_101 : decode cX10_difficultyOf 101 = .ok (.iadd, 1) := by decide +kernel
theorem dX10_difficultyOf_102 : decode cX10_difficultyOf 102 = .ok (.istore_n 2, 1) := by decide +kernel
theorem dX10_difficultyOf_103 : decode cX10_difficultyOf 103 = .ok (.iload_n 2, 1) := by decide +kernel
theorem dX10_difficultyOf_104 : decode cX10_difficultyOf 104 = .ok (.aload_n 0, 1) := by decide +kernel
theorem dX10_difficultyOf_105 : decode cX10_difficultyOf 105 = .ok (.getfield 7, 3) := by decide +kernel
theorem dX10_difficultyOf_108 : decode cX10_difficultyOf 108 = .ok (.iload 6, 2) := by decide +kernel
theorem dX10_difficultyOf_110 : decode cX10_difficultyOf 110 = .ok (.iconst 4, 1) := by decide +kernel
theorem dX10_difficultyOf_111 : decode cX10_difficultyOf 111 = .ok (.iadd, 1) := by decide +kernel
theorem dX10_difficultyOf_112 : decode cX10_difficultyOf 112 = .ok (.iaload, 1) := by decide +kernel
theorem dX10_difficultyOf_113 : decode cX10_difficultyOf 113 = .ok (.bipush 100, 2) := by decide +kernel
theorem dX10_difficultyOf_115 : decode cX10_difficultyOf 115 = .ok (.if_icmp .eq 34, 3) := by decide +kernel
theorem dX10_difficultyOf_118 : decode cX10_difficultyOf 118 = .ok (.aload_n 0, 1) := by decide +kernel
theorem dX10_difficultyOf_119 : decode cX10_difficultyOf 119 = .ok (.getfield 7, 3) := by decide +kernel
theorem dX10_difficultyOf_122 : decode cX10_difficultyOf 122 = .ok (.iload 6, 2) := by decide +kernel
theorem dX10_difficultyOf_124 : decode cX10_difficultyOf 124 = .ok (.iconst 4, 1) := by decide +kernel
theorem dX10_difficultyOf_125 : decode cX10_difficultyOf 125 = .ok (.iadd, 1) := by decide +kernel
theorem dX10_difficultyOf_126 : decode cX10_difficultyOf 126 = .ok (.iaload, 1) := by decide +kernel
theorem dX10_difficultyOf_127 : decode cX10_difficultyOf 127 = .ok (.invokestatic 161, 3) := by decide +kernel
theorem dX10_difficultyOf_130 : decode cX10_difficultyOf 130 = .ok (.aload_n 0, 1) := by decide +kernel
theorem dX10_difficultyOf_131 : decode cX10_difficultyOf 131 = .ok (.getfield 7, 3) := by decide +kernel
theorem dX10_difficultyOf_134 : decode cX10_difficultyOf 134 = .ok (.iload 6, 2) := by decide +kernel
theorem dX10_difficultyOf_136 : decode cX10_difficultyOf 136 = .ok (.iconst 2, 1) := by decide +kernel
theorem dX10_difficultyOf_137 : decode cX10_difficultyOf 137 = .ok (.iadd, 1) := by decide +kernel
theorem dX10_difficultyOf_138 : decode cX10_difficultyOf 138 = .ok (.iaload, 1) := by decide +kernel
theorem dX10_difficultyOf_139 : decode cX10_difficultyOf 139 = .ok (.invokestatic 161, 3) := by decide +kernel
theorem dX10_difficultyOf_142 : decode cX10_difficultyOf 142 = .ok (.if_icmp .eq 7, 3) := by decide +kernel
theorem dX10_difficultyOf_145 : decode cX10_difficultyOf 145 = .ok (.iconst 1, 1) := by decide +kernel
theorem dX10_difficultyOf_146 : decode cX10_difficultyOf 146 = .ok (.goto 4, 3) := by decide +kernel
theorem dX10_difficultyOf_149 : decode cX10_difficultyOf 149 = .ok (.iconst 0, 1) := by decide +kernel
theorem dX10_difficultyOf_150 : decode cX10_difficultyOf 150 = .ok (.iadd, 1) := by decide +kernel
theorem dX10_difficultyOf_151 : decode cX10_difficultyOf 151 = .ok (.istore_n 2, 1) := by decide +kernel
theorem dX10_difficultyOf_152 : decode cX10_difficultyOf 152 = .ok (.iload_n 2, 1) := by decide +kernel
theorem dX10_difficultyOf_153 : decode cX10_difficultyOf 153 = .ok (.iload 5, 2) := by decide +kernel
theorem dX10_difficultyOf_155 : decode cX10_difficultyOf 155 = .ok (.ifCond .le 23, 3) := by decide +kernel
theorem dX10_difficultyOf_158 : decode cX10_difficultyOf 158 = .ok (.iload 8, 2) := by decide +kernel
theorem dX10_difficultyOf_160 : decode cX10_difficultyOf 160 = .ok (.ifCond .eq 18, 3) := by decide +kernel
theorem dX10_difficultyOf_163 : decode cX10_difficultyOf 163 = .ok (.iload_n 3, 1) := by decide +kernel
theorem dX10_difficultyOf_164 : decode cX10_difficultyOf 164 = .ok (.ifCond .eq 14, 3) := by decide +kernel
theorem dX10_difficultyOf_167 : decode cX10_difficultyOf 167 = .ok (.iload 7, 2) := by decide +kernel
theorem dX10_difficultyOf_169 : decode cX10_difficultyOf 169 = .ok (.iload 4, 2) := by decide +kernel
theorem dX10_difficultyOf_171 : decode cX10_difficultyOf 171 = .ok (.if_icmp .eq 7, 3) := by decide +kernel
theorem dX10_difficultyOf_174 : decode cX10_difficultyOf 174 = .ok (.iconst 1, 1) := by decide +kernel
theorem dX10_difficultyOf_175 : decode cX10_difficultyOf 175 = .ok (.goto 4, 3) := by decide +kernel
theorem dX10_difficultyOf_178 : decode cX10_difficultyOf 178 = .ok (.iconst 0, 1) := by decide +kernel
theorem dX10_difficultyOf_179 : decode cX10_difficultyOf 179 = .ok (.iadd, 1) := by decide +kernel
theorem dX10_difficultyOf_180 : decode cX10_difficultyOf 180 = .ok (.istore_n 2, 1) := by decide +kernel
theorem dX10_difficultyOf_181 : decode cX10_difficultyOf 181 = .ok (.iload 8, 2) := by decide +kernel
theorem dX10_difficultyOf_183 : decode cX10_difficultyOf 183 = .ok (.istore_n 3, 1) := by decide +kernel
theorem dX10_difficultyOf_184 : decode cX10_difficultyOf 184 = .ok (.iload 7, 2) := by decide +kernel
theorem dX10_difficultyOf_186 : decode cX10_difficultyOf 186 = .ok (.istore 4, 2) := by decide +kernel
theorem dX10_difficultyOf_188 : decode cX10_difficultyOf 188 = .ok (.iinc 5 1, 3) := by decide +kernel
theorem dX10_difficultyOf_191 : decode cX10_difficultyOf 191 = .ok (.goto (-181), 3) := by decide +kernel
theorem dX10_difficultyOf_194 : decode cX10_difficultyOf 194 = .ok (.iload_n 2, 1) := by decide +kernel
theorem dX10_difficultyOf_195 : decode cX10_difficultyOf 195 = .ok (.ireturn, 1) := by decide +kernel
theorem dX10_difficulty_0 : decode cX10_difficulty 0 = .ok (.aload_n 0, 1) := by decide +kernel
theorem dX10_difficulty_1 : decode cX10_difficulty 1 = .ok (.iconst 0, 1) := by decide +kernel
theorem dX10_difficulty_2 : decode cX10_difficulty 2 = .ok (.putfield 46, 3) := by decide +kernel
theorem dX10_difficulty_5 : decode cX10_difficulty 5 = .ok (.iload_n 1, 1) := by decide +kernel
theorem dX10_difficulty_6 : decode cX10_difficulty 6 = .ok (.iconst 0, 1) := by decide +kernel
theorem dX10_difficulty_7 : decode cX10_difficulty 7 = .ok (.bipush 7, 2) := by decide +kernel
theorem dX10_difficulty_9 : decode cX10_difficulty 9 = .ok (.invokestatic 97, 3) := by decide +kernel
theorem dX10_difficulty_12 : decode cX10_difficulty 12 = .ok (.ifCond .eq 11, 3) := by decide +kernel
theorem dX10_difficulty_15 : decode cX10_difficulty 15 = .ok (.aload_n 0, 1) := by decide +kernel
theorem dX10_difficulty_16 : decode cX10_difficulty 16 = .ok (.iload_n 1, 1) := by decide +kernel
theorem dX10_difficulty_17 : decode cX10_difficulty 17 = .ok (.invokevirtual 197, 3) := by decide +kernel
theorem dX10_difficulty_20 : decode cX10_difficulty 20 = .ok (.goto 8, 3) := by decide +kernel
theorem dX10_difficulty_23 : decode cX10_difficulty 23 = .ok (.aload_n 0, 1) := by decide +kernel
theorem dX10_difficulty_24 : decode cX10_difficulty 24 = .ok (.iconst 1, 1) := by decide +kernel
theorem dX10_difficulty_25 : decode cX10_difficulty 25 = .ok (.invokevirtual 101, 3) := by decide +kernel
theorem dX10_difficulty_28 : decode cX10_difficulty 28 = .ok (.ireturn, 1) := by decide +kernel
theorem dX10_bestCapo_0 : decode cX10_bestCapo 0 = .ok (.aload_n 0, 1) := by decide +kernel
theorem dX10_bestCapo_1 : decode cX10_bestCapo 1 = .ok (.iconst 0, 1) := by decide +kernel
theorem dX10_bestCapo_2 : decode cX10_bestCapo 2 = .ok (.putfield 46, 3) := by decide +kernel
theorem dX10_bestCapo_5 : decode cX10_bestCapo 5 = .ok (.iconst 0, 1) := by decide +kernel
theorem dX10_bestCapo_6 : decode cX10_bestCapo 6 = .ok (.istore_n 1, 1) := by decide +kernel
theorem dX10_bestCapo_7 : decode cX10_bestCapo 7 = .ok (.iconst 1, 1) := by decide +kernel
theorem dX10_bestCapo_8 : decode cX10_bestCapo 8 = .ok (.istore_n 2, 1) := by decide +kernel
theorem dX10_bestCapo_9 : decode cX10_bestCapo 9 = .ok (.iload_n 2, 1) := by decide +kernel
theorem dX10_bestCapo_10 : decode cX10_bestCapo 10 = .ok (.bipush 7, 2) := by decide +kernel
theorem dX10_bestCapo_12 : decode cX10_bestCapo 12 = .ok (.if_icmp .gt 28, 3) := by decide +kernel
theorem dX10_bestCapo_15 : decode cX10_bestCapo 15 = .ok (.aload_n 0, 1) := by decide +kernel
theorem dX10_bestCapo_16 : decode cX10_bestCapo 16 = .ok (.iload_n 2, 1) := by decide +kernel
theorem dX10_bestCapo_17 : decode cX10_bestCapo 17 = .ok (.invokevirtual 197, 3) := by decide +kernel
theorem dX10_bestCapo_20 : decode cX10_bestCapo 20 = .ok (.aload_n 0, 1) := by decide +kernel
theorem dX10_bestCapo_21 : decode cX10_bestCapo 21 = .ok (.iload_n 1, 1) := by decide +kernel
theorem dX10_bestCapo_22 : decode cX10_bestCapo 22 = .ok (.invokevirtual 197, 3) := by decide +kernel
theorem dX10_bestCapo_25 : decode cX10_bestCapo 25 = .ok (.if_icmp .ge 7, 3) := by decide +kernel
theorem dX10_bestCapo_28 : decode cX10_bestCapo 28 = .ok (.iload_n 2, 1) := by decide +kernel
theorem dX10_bestCapo_29 : decode cX10_bestCapo 29 = .ok (.goto 4, 3) := by decide +kernel
theorem dX10_bestCapo_32 : decode cX10_bestCapo 32 = .ok (.iload_n 1, 1) := by decide +kernel
theorem dX10_bestCapo_33 : decode cX10_bestCapo 33 = .ok (.istore_n 1, 1) := by decide +kernel
theorem dX10_bestCapo_34 : decode cX10_bestCapo 34 = .ok (.iinc 2 1, 3) := by decide +kernel
theorem dX10_bestCapo_37 : decode cX10_bestCapo 37 = .ok (.goto (-28), 3) := by decide +kernel
theorem dX10_bestCapo_40 : decode cX10_bestCapo 40 = .ok (.iload_n 1, 1) := by decide +kernel
theorem dX10_bestCapo_41 : decode cX10_bestCapo 41 = .ok (.ireturn, 1) := by decide +kernel
theorem dX10_laysChords_0 : decode cX10_laysChords 0 = .ok (.aload_n 0, 1) := by decide +kernel
theorem dX10_laysChords_1 : decode cX10_laysChords 1 = .ok (.iload_n 1, 1) := by decide +kernel
theorem dX10_laysChords_2 : decode cX10_laysChords 2 = .ok (.invokevirtual 120, 3) := by decide +kernel
theorem dX10_laysChords_5 : decode cX10_laysChords 5 = .ok (.istore_n 3, 1) := by decide +kernel
theorem dX10_laysChords_6 : decode cX10_laysChords 6 = .ok (.iload_n 2, 1) := by decide +kernel
theorem dX10_laysChords_7 : decode cX10_laysChords 7 = .ok (.ifCond .le 36, 3) := by decide +kernel
theorem dX10_laysChords_10 : decode cX10_laysChords 10 = .ok (.iload_n 2, 1) := by decide +kernel
theorem dX10_laysChords_11 : decode cX10_laysChords 11 = .ok (.iload_n 3, 1) := by decide +kernel
theorem dX10_laysChords_12 : decode cX10_laysChords 12 = .ok (.if_icmp .ge 31, 3) := by decide +kernel
theorem dX10_laysChords_15 : decode cX10_laysChords 15 = .ok (.aload_n 0, 1) := by decide +kernel
theorem dX10_laysChords_16 : decode cX10_laysChords 16 = .ok (.iload_n 1, 1) := by decide +kernel
theorem dX10_laysChords_17 : decode cX10_laysChords 17 = .ok (.iload_n 2, 1) := by decide +kernel
theorem dX10_laysChords_18 : decode cX10_laysChords 18 = .ok (.iconst 1, 1) := by decide +kernel
theorem dX10_laysChords_19 : decode cX10_laysChords 19 = .ok (.isub, 1) := by decide +kernel
theorem dX10_laysChords_20 : decode cX10_laysChords 20 = .ok (.invokevirtual 123, 3) := by decide +kernel
theorem dX10_laysChords_23 : decode cX10_laysChords 23 = .ok (.bipush 32, 2) := by decide +kernel
theorem dX10_laysChords_25 : decode cX10_laysChords 25 = .ok (.if_icmp .eq 18, 3) := by decide +kernel
theorem dX10_laysChords_28 : decode cX10_laysChords 28 = .ok (.aload_n 0, 1) := by decide +kernel
theorem dX10_laysChords_29 : decode cX10_laysChords 29 = .ok (.iload_n 1, 1) := by decide +kernel
theorem dX10_laysChords_30 : decode cX10_laysChords 30 = .ok (.iload_n 2, 1) := by decide +kernel
theorem dX10_laysChords_31 : decode cX10_laysChords 31 = .ok (.invokevirtual 123, 3) := by decide +kernel
theorem dX10_laysChords_34 : decode cX10_laysChords 34 = .ok (.bipush 32, 2) := by decide +kernel
theorem dX10_laysChords_36 : decode cX10_laysChords 36 = .ok (.if_icmp .eq 7, 3) := by decide +kernel
theorem dX10_laysChords_39 : decode cX10_laysChords 39 = .ok (.iconst 1, 1) := by decide +kernel
theorem dX10_laysChords_40 : decode cX10_laysChords 40 = .ok (.goto 4, 3) := by decide +kernel
theorem dX10_laysChords_43 : decode cX10_laysChords 43 = .ok (.iconst 0, 1) := by decide +kernel
theorem dX10_laysChords_44 : decode cX10_laysChords 44 = .ok (.istore 4, 2) := by decide +kernel
theorem dX10_laysChords_46 : decode cX10_laysChords 46 = .ok (.iconst 0, 1) := by decide +kernel
theorem dX10_laysChords_47 : decode cX10_laysChords 47 = .ok (.istore 5, 2) := by decide +kernel
theorem dX10_laysChords_49 : decode cX10_laysChords 49 = .ok (.iload 5, 2) := by decide +kernel
theorem dX10_laysChords_51 : decode cX10_laysChords 51 = .ok (.aload_n 0, 1) := by decide +kernel
theorem dX10_laysChords_52 : decode cX10_laysChords 52 = .ok (.getfield 7, 3) := by decide +kernel
theorem dX10_laysChords_55 : decode cX10_laysChords 55 = .ok (.iconst 1, 1) := by decide +kernel
theorem dX10_laysChords_56 : decode cX10_laysChords 56 = .ok (.iaload, 1) := by decide +kernel
theorem dX10_laysChords_57 : decode cX10_laysChords 57 = .ok (.if_icmp .ge 180, 3) := by decide +kernel
theorem dX10_laysChords_60 : decode cX10_laysChords 60 = .ok (.aload_n 0, 1) := by decide +kernel
theorem dX10_laysChords_61 : decode cX10_laysChords 61 = .ok (.getfield 7, 3) := by decide +kernel
theorem dX10_laysChords_64 : decode cX10_laysChords 64 = .ok (.iload 5, 2) := by decide +kernel
theorem dX10_laysChords_66 : decode cX10_laysChords 66 = .ok (.invokestatic 94, 3) := by decide +kernel
theorem dX10_laysChords_69 : decode cX10_laysChords 69 = .ok (.iconst 0, 1) := by decide +kernel
theorem dX10_laysChords_70 : decode cX10_laysChords 70 = .ok (.iadd, 1) := by decide +kernel
theorem dX10_laysChords_71 : decode cX10_laysChords 71 = .ok (.iaload, 1) := by decide +kernel
theorem dX10_laysChords_72 : decode cX10_laysChords 72 = .ok (.iload_n 1, 1) := by decide +kernel
theorem dX10_laysChords_73 : decode cX10_laysChords 73 = .ok (.if_icmp .ne 158, 3) := by decide +kernel
theorem dX10_laysChords_76 : decode cX10_laysChords 76 = .ok (.aload_n 0, 1) := by decide +kernel
theorem dX10_laysChords_77 : decode cX10_laysChords 77 = .ok (.getfield 7, 3) := by decide +kernel
theorem dX10_laysChords_80 : decode cX10_laysChords 80 = .ok (.iload 5, 2) := by decide +kernel
theorem dX10_laysChords_82 : decode cX10_laysChords 82 = .ok (.invokestatic 94, 3) := by decide +kernel
theorem dX10_laysChords_85 : decode cX10_laysChords 85 = .ok (.iconst 1, 1) := by decide +kernel
theorem dX10_laysChords_86 : decode cX10_laysChords 86 = .ok (.iadd, 1) := by decide +kernel
theorem dX10_laysChords_87 : decode cX10_laysChords 87 = .ok (.iaload, 1) := by decide +kernel
theorem dX10_laysChords_88 : decode cX10_laysChords 88 = .ok (.iload_n 2, 1) := by decide +kernel
theorem dX10_laysChords_89 : decode cX10_laysChords 89 = .ok (.if_icmp .ne 142, 3) := by decide +kernel
theorem dX10_laysChords_92 : decode cX10_laysChords 92 = .ok (.aload_n 0, 1) := by decide +kernel
theorem dX10_laysChords_93 : decode cX10_laysChords 93 = .ok (.getfield 200, 3) := by decide +kernel
theorem dX10_laysChords_96 : decode cX10_laysChords 96 = .ok (.ifCond .le 50, 3) := by decide +kernel
theorem dX10_laysChords_99 : decode cX10_laysChords 99 = .ok (.aload_n 0, 1) := by decide +kernel
theorem dX10_laysChords_100 : decode cX10_laysChords 100 = .ok (.getfield 203, 3) := by decide +kernel
theorem dX10_laysChords_103 : decode cX10_laysChords 103 = .ok (.aload_n 0, 1) := by decide +kernel
theorem dX10_laysChords_104 : decode cX10_laysChords 104 = .ok (.getfield 200, 3) := by decide +kernel
theorem dX10_laysChords_107 : decode cX10_laysChords 107 = .ok (.iconst 1, 1) := by decide +kernel
theorem dX10_laysChords_108 : decode cX10_laysChords 108 = .ok (.iadd, 1) := by decide +kernel
theorem dX10_laysChords_109 : decode cX10_laysChords 109 = .ok (.if_icmp .ge 37, 3) := by decide +kernel
theorem dX10_laysChords_112 : decode cX10_laysChords 112 = .ok (.aload_n 0, 1) := by decide +kernel
theorem dX10_laysChords_113 : decode cX10_laysChords 113 = .ok (.getfield 43, 3) := by decide +kernel
theorem dX10_laysChords_116 : decode cX10_laysChords 116 = .ok (.aload_n 0, 1) := by decide +kernel
theorem dX10_laysChords_117 : decode cX10_laysChords 117 = .ok (.getfield 203, 3) := by decide +kernel
theorem dX10_laysChords_120 : decode cX10_laysChords 120 = .ok (.iload 4, 2) := by decide +kernel
theorem dX10_laysChords_122 : decode cX10_laysChords 122 = .ok (.ifCond .eq 8, 3) := by decide +kernel
theorem dX10_laysChords_125 : decode cX10_laysChords 125 = .ok (.bipush 45, 2) := by decide +kernel
theorem dX10_laysChords_127 : decode cX10_laysChords 127 = .ok (.goto 5, 3) := by decide +kernel
theorem dX10_laysChords_130 : decode cX10_laysChords 130 = .ok (.bipush 32, 2) := by decide +kernel
theorem dX10_laysChords_132 : decode cX10_laysChords 132 = .ok (.iastore, 1) := by decide +kernel
theorem dX10_laysChords_133 : decode cX10_laysChords 133 = .ok (.aload_n 0, 1) := by decide +kernel
theorem dX10_laysChords_134 : decode cX10_laysChords 134 = .ok (.dup, 1) := by decide +kernel
theorem dX10_laysChords_135 : decode cX10_laysChords 135 = .ok (.getfield 203, 3) := by decide +kernel
theorem dX10_laysChords_138 : decode cX10_laysChords 138 = .ok (.iconst 1, 1) := by decide +kernel
theorem dX10_laysChords_139 : decode cX10_laysChords 139 = .ok (.iadd, 1) := by decide +kernel
theorem dX10_laysChords_140 : decode cX10_laysChords 140 = .ok (.putfield 203, 3) := by decide +kernel
theorem dX10_laysChords_143 : decode cX10_laysChords 143 = .ok (.goto (-51), 3) := by decide +kernel
theorem dX10_laysChords_146 : decode cX10_laysChords 146 = .ok (.aload_n 0, 1) := by decide +kernel
theorem dX10_laysChords_147 : decode cX10_laysChords 147 = .ok (.getfield 200, 3) := by decide +kernel
theorem dX10_laysChords_150 : decode cX10_laysChords 150 = .ok (.aload_n 0, 1) := by decide +kernel
theorem dX10_laysChords_151 : decode cX10_laysChords 151 = .ok (.getfield 203, 3) := by decide +kernel
theorem dX10_laysChords_154 : decode cX10_laysChords 154 = .ok (.if_icmp .ge 27, 3) := by decide +kernel
theorem dX10_laysChords_157 : decode cX10_laysChords 157 = .ok (.aload_n 0, 1) := by decide +kernel
theorem dX10_laysChords_158 : decode cX10_laysChords 158 = .ok (.getfield 40, 3) := by decide +kernel
theorem dX10_laysChords_161 : decode cX10_laysChords 161 = .ok (.aload_n 0, 1) := by decide +kernel
theorem dX10_laysChords_162 : decode cX10_laysChords 162 = .ok (.getfield 200, 3) := by decide +kernel
theorem dX10_laysChords_165 : decode cX10_laysChords 165 = .ok (.bipush 32, 2) := by decide +kernel
theorem dX10_laysChords_167 : decode cX10_laysChords 167 = .ok (.iastore, 1) := by decide +kernel
theorem dX10_laysChords_168 : decode cX10_laysChords 168 = .ok (.aload_n 0, 1) := by decide +kernel
theorem dX10_laysChords_169 : decode cX10_laysChords 169 = .ok (.dup, 1) := by decide +kernel
theorem dX10_laysChords_170 : decode cX10_laysChords 170 = .ok (.getfield 200, 3) := by decide +kernel
theorem dX10_laysChords_173 : decode cX10_laysChords 173 = .ok (.iconst 1, 1) := by decide +kernel
theorem dX10_laysChords_174 : decode cX10_laysChords 174 = .ok (.iadd, 1) := by decide +kernel
theorem dX10_laysChords_175 : decode cX10_laysChords 175 = .ok (.putfield 200, 3) := by decide +kernel
theorem dX10_laysChords_178 : decode cX10_laysChords 178 = .ok (.goto (-32), 3) := by decide +kernel
theorem dX10_laysChords_181 : decode cX10_laysChords 181 = .ok (.aload_n 0, 1) := by decide +kernel
theorem dX10_laysChords_182 : decode cX10_laysChords 182 = .ok (.iload 5, 2) := by decide +kernel
theorem dX10_laysChords_184 : decode cX10_laysChords 184 = .ok (.invokevirtual 143, 3) := by decide +kernel
theorem dX10_laysChords_187 : decode cX10_laysChords 187 = .ok (.iconst 0, 1) := by decide +kernel
theorem dX10_laysChords_188 : decode cX10_laysChords 188 = .ok (.istore 6, 2) := by decide +kernel
theorem dX10_laysChords_190 : decode cX10_laysChords 190 = .ok (.iload 6, 2) := by decide +kernel
theorem dX10_laysChords_192 : decode cX10_laysChords 192 = .ok (.aload_n 0, 1) := by decide +kernel
theorem dX10_laysChords_193 : decode cX10_laysChords 193 = .ok (.getfield 133, 3) := by decide +kernel
theorem dX10_laysChords_196 : decode cX10_laysChords 196 = .ok (.if_icmp .ge 35, 3) := by decide +kernel
theorem dX10_laysChords_199 : decode cX10_laysChords 199 = .ok (.aload_n 0, 1) := by decide +kernel
theorem dX10_laysChords_200 : decode cX10_laysChords 200 = .ok (.getfield 40, 3) := by decide +kernel
theorem dX10_laysChords_203 : decode cX10_laysChords 203 = .ok (.aload_n 0, 1) := by decide +kernel
theorem dX10_laysChords_204 : decode cX10_laysChords 204 = .ok (.getfield 200, 3) := by decide +kernel
theorem dX10_laysChords_207 : decode cX10_laysChords 207 = .ok (.aload_n 0, 1) := by decide +kernel
theorem dX10_laysChords_208 : decode cX10_laysChords 208 = .ok (.getfield 37, 3) := by decide +kernel
theorem dX10_laysChords_211 : decode cX10_laysChords 211 = .ok (.iload 6, 2) := by decide +kernel
theorem dX10_laysChords_213 : decode cX10_laysChords 213 = .ok (.iaload, 1) := by decide +kernel
theorem dX10_laysChords_214 : decode cX10_laysChords 214 = .ok (.iastore, 1) := by decide +kernel
theorem dX10_laysChords_215 : decode cX10_laysChords 215 = .ok (.aload_n 0, 1) := by decide +kernel
theorem dX10_laysChords_216 : decode cX10_laysChords 216 = .ok (.dup, 1) := by decide +kernel
theorem dX10_laysChords_217 : decode cX10_laysChords 217 = .ok (.getfield 200, 3) := by decide +kernel
theorem dX10_laysChords_220 : decode cX10_laysChords 220 = .ok (.iconst 1, 1) := by decide +kernel
theorem dX10_laysChords_221 : decode cX10_laysChords 221 = .ok (.iadd, 1) := by decide +kernel
theorem dX10_laysChords_222 : decode cX10_laysChords 222 = .ok (.putfield 200, 3) := by decide +kernel
theorem dX10_laysChords_225 : decode cX10_laysChords 225 = .ok (.iinc 6 1, 3) := by decide +kernel
theorem dX10_laysChords_228 : decode cX10_laysChords 228 = .ok (.goto (-38), 3) := by decide +kernel
theorem dX10_laysChords_231 : decode cX10_laysChords 231 = .ok (.iinc 5 1, 3) := by decide +kernel
theorem dX10_laysChords_234 : decode cX10_laysChords 234 = .ok (.goto (-185), 3) := by decide +kernel
theorem dX10_laysChords_237 : decode cX10_laysChords 237 = .ok (.return_, 1) := by decide +kernel
theorem dX10_lays_0 : decode cX10_lays 0 = .ok (.aload_n 0, 1) := by decide +kernel
theorem dX10_lays_1 : decode cX10_lays 1 = .ok (.iconst 0, 1) := by decide +kernel
theorem dX10_lays_2 : decode cX10_lays 2 = .ok (.putfield 200, 3) := by decide +kernel
theorem dX10_lays_5 : decode cX10_lays 5 = .ok (.aload_n 0, 1) := by decide +kernel
theorem dX10_lays_6 : decode cX10_lays 6 = .ok (.iconst 0, 1) := by decide +kernel
theorem dX10_lays_7 : decode cX10_lays 7 = .ok (.putfield 203, 3) := by decide +kernel
theorem dX10_lays_10 : decode cX10_lays 10 = .ok (.iload_n 2, 1) := by decide +kernel
theorem dX10_lays_11 : decode cX10_lays 11 = .ok (.istore 4, 2) := by decide +kernel
theorem dX10_lays_13 : decode cX10_lays 13 = .ok (.iload 4, 2) := by decide +kernel
theorem dX10_lays_15 : decode cX10_lays 15 = .ok (.iload_n 3, 1) := by decide +kernel
theorem dX10_lays_16 : decode cX10_lays 16 = .ok (.if_icmp .ge 42, 3) := by decide +kernel
theorem dX10_lays_19 : decode cX10_lays 19 = .ok (.aload_n 0, 1) := by decide +kernel
theorem dX10_lays_20 : decode cX10_lays 20 = .ok (.iload_n 1, 1) := by decide +kernel
theorem dX10_lays_21 : decode cX10_lays 21 = .ok (.iload 4, 2) := by decide +kernel
theorem dX10_lays_23 : decode cX10_lays 23 = .ok (.invokevirtual 206, 3) := by decide +kernel
theorem dX10_lays_26 : decode cX10_lays 26 = .ok (.aload_n 0, 1) := by decide +kernel
theorem dX10_lays_27 : decode cX10_lays 27 = .ok (.getfield 43, 3) := by decide +kernel
theorem dX10_lays_30 : decode cX10_lays 30 = .ok (.aload_n 0, 1) := by decide +kernel
theorem dX10_lays_31 : decode cX10_lays 31 = .ok (.getfield 203, 3) := by decide +kernel
theorem dX10_lays_34 : decode cX10_lays 34 = .ok (.aload_n 0, 1) := by decide +kernel
theorem dX10_lays_35 : decode cX10_lays 35 = .ok (.iload_n 1, 1) := by decide +kernel
theorem dX10_lays_36 : decode cX10_lays 36 = .ok (.iload 4, 2) := by decide +kernel
theorem dX10_lays_38 : decode cX10_lays 38 = .ok (.invokevirtual 123, 3) := by decide +kernel
theorem dX10_lays_41 : decode cX10_lays 41 = .ok (.iastore, 1) := by decide +kernel
theorem dX10_lays_42 : decode cX10_lays 42 = .ok (.aload_n 0, 1) := by decide +kernel
theorem dX10_lays_43 : decode cX10_lays 43 = .ok (.dup, 1) := by decide +kernel
theorem dX10_lays_44 : decode cX10_lays 44 = .ok (.getfield 203, 3) := by decide +kernel
theorem dX10_lays_47 : decode cX10_lays 47 = .ok (.iconst 1, 1) := by decide +kernel
theorem dX10_lays_48 : decode cX10_lays 48 = .ok (.iadd, 1) := by decide +kernel
theorem dX10_lays_49 : decode cX10_lays 49 = .ok (.putfield 203, 3) := by decide +kernel
theorem dX10_lays_52 : decode cX10_lays 52 = .ok (.iinc 4 1, 3) := by decide +kernel
theorem dX10_lays_55 : decode cX10_lays 55 = .ok (.goto (-42), 3) := by decide +kernel
theorem dX10_lays_58 : decode cX10_lays 58 = .ok (.iload_n 3, 1) := by decide +kernel
theorem dX10_lays_59 : decode cX10_lays 59 = .ok (.aload_n 0, 1) := by decide +kernel
theorem dX10_lays_60 : decode cX10_lays 60 = .ok (.iload_n 1, 1) := by decide +kernel
theorem dX10_lays_61 : decode cX10_lays 61 = .ok (.invokevirtual 120, 3) := by decide +kernel
theorem dX10_lays_64 : decode cX10_lays 64 = .ok (.if_icmp .ne 9, 3) := by decide +kernel
theorem dX10_lays_67 : decode cX10_lays 67 = .ok (.aload_n 0, 1) := by decide +kernel
theorem dX10_lays_68 : decode cX10_lays 68 = .ok (.iload_n 1, 1) := by decide +kernel
theorem dX10_lays_69 : decode cX10_lays 69 = .ok (.iload_n 3, 1) := by decide +kernel
theorem dX10_lays_70 : decode cX10_lays 70 = .ok (.invokevirtual 206, 3) := by decide +kernel
theorem dX10_lays_73 : decode cX10_lays 73 = .ok (.return_, 1) := by decide +kernel
theorem dX10_isBreak_0 : decode cX10_isBreak 0 = .ok (.aload_n 0, 1) := by decide +kernel
theorem dX10_isBreak_1 : decode cX10_isBreak 1 = .ok (.iload_n 1, 1) := by decide +kernel
theorem dX10_isBreak_2 : decode cX10_isBreak 2 = .ok (.invokevirtual 120, 3) := by decide +kernel
theorem dX10_isBreak_5 : decode cX10_isBreak 5 = .ok (.istore_n 3, 1) := by decide +kernel
theorem dX10_isBreak_6 : decode cX10_isBreak 6 = .ok (.iload_n 2, 1) := by decide +kernel
theorem dX10_isBreak_7 : decode cX10_isBreak 7 = .ok (.ifCond .eq 32, 3) := by decide +kernel
theorem dX10_isBreak_10 : decode cX10_isBreak 10 = .ok (.iload_n 2, 1) := by decide +kernel
theorem dX10_isBreak_11 : decode cX10_isBreak 11 = .ok (.iload_n 3, 1) := by decide +kernel
theorem dX10_isBreak_12 : decode cX10_isBreak 12 = .ok (.if_icmp .eq 27, 3) := by decide +kernel
theorem dX10_isBreak_15 : decode cX10_isBreak 15 = .ok (.aload_n 0, 1) := by decide +kernel
theorem dX10_isBreak_16 : decode cX10_isBreak 16 = .ok (.iload_n 1, 1) := by decide +kernel
theorem dX10_isBreak_17 : decode cX10_isBreak 17 = .ok (.iload_n 2, 1) := by decide +kernel
theorem dX10_isBreak_18 : decode cX10_isBreak 18 = .ok (.invokevirtual 123, 3) := by decide +kernel
theorem dX10_isBreak_21 : decode cX10_isBreak 21 = .ok (.bipush 32, 2) := by decide +kernel
theorem dX10_isBreak_23 : decode cX10_isBreak 23 = .ok (.if_icmp .eq 20, 3) := by decide +kernel
theorem dX10_isBreak_26 : decode cX10_isBreak 26 = .ok (.aload_n 0, 1) := by decide +kernel
theorem dX10_isBreak_27 : decode cX10_isBreak 27 = .ok (.iload_n 1, 1) := by decide +kernel
theorem dX10_isBreak_28 : decode cX10_isBreak 28 = .ok (.iload_n 2, 1) := by decide +kernel
theorem dX10_isBreak_29 : decode cX10_isBreak 29 = .ok (.iconst 1, 1) := by decide +kernel
theorem dX10_isBreak_30 : decode cX10_isBreak 30 = .ok (.isub, 1) := by decide +kernel
theorem dX10_isBreak_31 : decode cX10_isBreak 31 = .ok (.invokevirtual 123, 3) := by decide +kernel
theorem dX10_isBreak_34 : decode cX10_isBreak 34 = .ok (.bipush 32, 2) := by decide +kernel
theorem dX10_isBreak_36 : decode cX10_isBreak 36 = .ok (.if_icmp .ne 7, 3) := by decide +kernel
theorem dX10_isBreak_39 : decode cX10_isBreak 39 = .ok (.iconst 1, 1) := by decide +kernel
theorem dX10_isBreak_40 : decode cX10_isBreak 40 = .ok (.goto 4, 3) := by decide +kernel
theorem dX10_isBreak_43 : decode cX10_isBreak 43 = .ok (.iconst 0, 1) := by decide +kernel
theorem dX10_isBreak_44 : decode cX10_isBreak 44 = .ok (.ireturn, 1) := by decide +kernel
theorem dX10_endOf_0 : decode cX10_endOf 0 = .ok (.aload_n 0, 1) := by decide +kernel
theorem dX10_endOf_1 : decode cX10_endOf 1 = .ok (.iload_n 1, 1) := by decide +kernel
theorem dX10_endOf_2 : decode cX10_endOf 2 = .ok (.invokevirtual 120, 3) := by decide +kernel
theorem dX10_endOf_5 : decode cX10_endOf 5 = .ok (.istore_n 3, 1) := by decide +kernel
theorem dX10_endOf_6 : decode cX10_endOf 6 = .ok (.iload_n 3, 1) := by decide +kernel
theorem dX10_endOf_7 : decode cX10_endOf 7 = .ok (.istore 4, 2) := by decide +kernel
theorem dX10_endOf_9 : decode cX10_endOf 9 = .ok (.iconst (-1), 1) := by decide +kernel
theorem dX10_endOf_10 : decode cX10_endOf 10 = .ok (.istore 5, 2) := by decide +kernel
theorem dX10_endOf_12 : decode cX10_endOf 12 = .ok (.iload_n 3, 1) := by decide +kernel
theorem dX10_endOf_13 : decode cX10_endOf 13 = .ok (.istore 6, 2) := by decide +kernel
theorem dX10_endOf_15 : decode cX10_endOf 15 = .ok (.iload 6, 2) := by decide +kernel
theorem dX10_endOf_17 : decode cX10_endOf 17 = .ok (.iload_n 2, 1) := by decide +kernel
theorem dX10_endOf_18 : decode cX10_endOf 18 = .ok (.if_icmp .le 67, 3) := by decide +kernel
theorem dX10_endOf_21 : decode cX10_endOf 21 = .ok (.aload_n 0, 1) := by decide +kernel
theorem dX10_endOf_22 : decode cX10_endOf 22 = .ok (.iload_n 1, 1) := by decide +kernel
theorem dX10_endOf_23 : decode cX10_endOf 23 = .ok (.iload 6, 2) := by decide +kernel
theorem dX10_endOf_25 : decode cX10_endOf 25 = .ok (.invokevirtual 210, 3) := by decide +kernel
theorem dX10_endOf_28 : decode cX10_endOf 28 = .ok (.ifCond .eq 51, 3) := by decide +kernel
theorem dX10_endOf_31 : decode cX10_endOf 31 = .ok (.iload 6, 2) := by decide +kernel
theorem dX10_endOf_33 : decode cX10_endOf 33 = .ok (.istore 4, 2) := by decide +kernel
theorem dX10_endOf_35 : decode cX10_endOf 35 = .ok (.aload_n 0, 1) := by decide +kernel
theorem dX10_endOf_36 : decode cX10_endOf 36 = .ok (.iload_n 1, 1) := by decide +kernel
theorem dX10_endOf_37 : decode cX10_endOf 37 = .ok (.iload_n 2, 1) := by decide +kernel
theorem dX10_endOf_38 : decode cX10_endOf 38 = .ok (.iload 6, 2) := by decide +kernel
theorem dX10_endOf_40 : decode cX10_endOf 40 = .ok (.invokevirtual 213, 3) := by decide +kernel
theorem dX10_endOf_43 : decode cX10_endOf 43 = .ok (.iload 5, 2) := by decide +kernel
theorem dX10_endOf_45 : decode cX10_endOf 45 = .ok (.ifCond .ge 30, 3) := by decide +kernel
theorem dX10_endOf_48 : decode cX10_endOf 48 = .ok (.aload_n 0, 1) := by decide +kernel
theorem dX10_endOf_49 : decode cX10_endOf 49 = .ok (.getfield 200, 3) := by decide +kernel
theorem dX10_endOf_52 : decode cX10_endOf 52 = .ok (.aload_n 0, 1) := by decide +kernel
theorem dX10_endOf_53 : decode cX10_endOf 53 = .ok (.getfield 23, 3) := by decide +kernel
theorem dX10_endOf_56 : decode cX10_endOf 56 = .ok (.if_icmp .gt 19, 3) := by decide +kernel
theorem dX10_endOf_59 : decode cX10_endOf 59 = .ok (.aload_n 0, 1) := by decide +kernel
theorem dX10_endOf_60 : decode cX10_endOf 60 = .ok (.getfield 203, 3) := by decide +kernel
theorem dX10_endOf_63 : decode cX10_endOf 63 = .ok (.aload_n 0, 1) := by decide +kernel
theorem dX10_endOf_64 : decode cX10_endOf 64 = .ok (.getfield 23, 3) := by decide +kernel
theorem dX10_endOf_67 : decode cX10_endOf 67 = .ok (.if_icmp .gt 8, 3) := by decide +kernel
theorem dX10_endOf_70 : decode cX10_endOf 70 = .ok (.iload 6, 2) := by decide +kernel
theorem dX10_endOf_72 : decode cX10_endOf 72 = .ok (.goto 5, 3) := by decide +kernel
theorem dX10_endOf_75 : decode cX10_endOf 75 = .ok (.iload 5, 2) := by decide +kernel
theorem dX10_endOf_77 : decode cX10_endOf 77 = .ok (.istore 5, 2) := by decide +kernel
theorem dX10_endOf_79 : decode cX10_endOf 79 = .ok (.iinc 6 (-1), 3) := by decide +kernel
theorem dX10_endOf_82 : decode cX10_endOf 82 = .ok (.goto (-67), 3) := by decide +kernel
theorem dX10_endOf_85 : decode cX10_endOf 85 = .ok (.iload 5, 2) := by decide +kernel
theorem dX10_endOf_87 : decode cX10_endOf 87 = .ok (.ifCond .ge 8, 3) := by decide +kernel
theorem dX10_endOf_90 : decode cX10_endOf 90 = .ok (.iload 4, 2) := by decide +kernel
theorem dX10_endOf_92 : decode cX10_endOf 92 = .ok (.goto 5, 3) := by decide +kernel
theorem dX10_endOf_95 : decode cX10_endOf 95 = .ok (.iload 5, 2) := by decide +kernel
theorem dX10_endOf_97 : decode cX10_endOf 97 = .ok (.ireturn, 1) := by decide +kernel
theorem dX10_pairsOf_0 : decode cX10_pairsOf 0 = .ok (.aload_n 0, 1) := by decide +kernel
theorem dX10_pairsOf_1 : decode cX10_pairsOf 1 = .ok (.iload_n 1, 1) := by decide +kernel
theorem dX10_pairsOf_2 : decode cX10_pairsOf 2 = .ok (.invokevirtual 120, 3) := by decide +kernel
theorem dX10_pairsOf_5 : decode cX10_pairsOf 5 = .ok (.istore_n 2, 1) := by decide +kernel
theorem dX10_pairsOf_6 : decode cX10_pairsOf 6 = .ok (.iload_n 2, 1) := by decide +kernel
theorem dX10_pairsOf_7 : decode cX10_pairsOf 7 = .ok (.ifCond .ne 7, 3) := by decide +kernel
theorem dX10_pairsOf_10 : decode cX10_pairsOf 10 = .ok (.iconst 1, 1) := by decide +kernel
theorem dX10_pairsOf_11 : decode cX10_pairsOf 11 = .ok (.goto 4, 3) := by decide +kernel
theorem dX10_pairsOf_14 : decode cX10_pairsOf 14 = .ok (.iconst 0, 1) := by decide +kernel
theorem dX10_pairsOf_15 : decode cX10_pairsOf 15 = .ok (.istore_n 3, 1) := by decide +kernel
theorem dX10_pairsOf_16 : decode cX10_pairsOf 16 = .ok (.iconst 0, 1) := by decide +kernel
theorem dX10_pairsOf_17 : decode cX10_pairsOf 17 = .ok (.istore 4, 2) := by decide +kernel
theorem dX10_pairsOf_19 : decode cX10_pairsOf 19 = .ok (.iload 4, 2) := by decide +kernel
theorem dX10_pairsOf_21 : decode cX10_pairsOf 21 = .ok (.iload_n 2, 1) := by decide +kernel
theorem dX10_pairsOf_22 : decode cX10_pairsOf 22 = .ok (.if_icmp .ge 18, 3) := by decide +kernel
theorem dX10_pairsOf_25 : decode cX10_pairsOf 25 = .ok (.aload_n 0, 1) := by decide +kernel
theorem dX10_pairsOf_26 : decode cX10_pairsOf 26 = .ok (.iload_n 1, 1) := by decide +kernel
theorem dX10_pairsOf_27 : decode cX10_pairsOf 27 = .ok (.iload 4, 2) := by decide +kernel
theorem dX10_pairsOf_29 : decode cX10_pairsOf 29 = .ok (.invokevirtual 217, 3) := by decide +kernel
theorem dX10_pairsOf_32 : decode cX10_pairsOf 32 = .ok (.istore 4, 2) := by decide +kernel
theorem dX10_pairsOf_34 : decode cX10_pairsOf 34 = .ok (.iinc 3 1, 3) := by decide +kernel
theorem dX10_pairsOf_37 : decode cX10_pairsOf 37 = .ok (.goto (-18), 3) := by decide +kernel
theorem dX10_pairsOf_40 : decode cX10_pairsOf 40 = .ok (.iload_n 3, 1) := by decide +kernel
theorem dX10_pairsOf_41 : decode cX10_pairsOf 41 = .ok (.ireturn, 1) := by decide +kernel
theorem dX10_pairs_0 : decode cX10_pairs 0 = .ok (.aload_n 0, 1) := by decide +kernel
theorem dX10_pairs_1 : decode cX10_pairs 1 = .ok (.iconst 0, 1) := by decide +kernel
theorem dX10_pairs_2 : decode cX10_pairs 2 = .ok (.putfield 46, 3) := by decide +kernel
theorem dX10_pairs_5 : decode cX10_pairs 5 = .ok (.aload_n 0, 1) := by decide +kernel
theorem dX10_pairs_6 : decode cX10_pairs 6 = .ok (.iload_n 1, 1) := by decide +kernel
theorem dX10_pairs_7 : decode cX10_pairs 7 = .ok (.invokevirtual 117, 3) := by decide +kernel
theorem dX10_pairs_10 : decode cX10_pairs 10 = .ok (.ifCond .eq 11, 3) := by decide +kernel
theorem dX10_pairs_13 : decode cX10_pairs 13 = .ok (.aload_n 0, 1) := by decide +kernel
theorem dX10_pairs_14 : decode cX10_pairs 14 = .ok (.iload_n 1, 1) := by decide +kernel
theorem dX10_pairs_15 : decode cX10_pairs 15 = .ok (.invokevirtual 220, 3) := by decide +kernel
theorem dX10_pairs_18 : decode cX10_pairs 18 = .ok (.goto 8, 3) := by decide +kernel
theorem dX10_pairs_21 : decode cX10_pairs 21 = .ok (.aload_n 0, 1) := by decide +kernel
theorem dX10_pairs_22 : decode cX10_pairs 22 = .ok (.iconst 1, 1) := by decide +kernel
theorem dX10_pairs_23 : decode cX10_pairs 23 = .ok (.invokevirtual 101, 3) := by decide +kernel
theorem dX10_pairs_26 : decode cX10_pairs 26 = .ok (.ireturn, 1) := by decide +kernel
theorem dX10_isRow_0 : decode cX10_isRow 0 = .ok (.aload_n 0, 1) := by decide +kernel
theorem dX10_isRow_1 : decode cX10_isRow 1 = .ok (.iload_n 1, 1) := by decide +kernel
theorem dX10_isRow_2 : decode cX10_isRow 2 = .ok (.invokevirtual 117, 3) := by decide +kernel
theorem dX10_isRow_5 : decode cX10_isRow 5 = .ok (.ifCond .eq 29, 3) := by decide +kernel
theorem dX10_isRow_8 : decode cX10_isRow 8 = .ok (.iload_n 3, 1) := by decide +kernel
theorem dX10_isRow_9 : decode cX10_isRow 9 = .ok (.iconst 0, 1) := by decide +kernel
theorem dX10_isRow_10 : decode cX10_isRow 10 = .ok (.iconst 1, 1) := by decide +kernel
theorem dX10_isRow_11 : decode cX10_isRow 11 = .ok (.invokestatic 97, 3) := by decide +kernel
theorem dX10_isRow_14 : decode cX10_isRow 14 = .ok (.ifCond .eq 20, 3) := by decide +kernel
theorem dX10_isRow_17 : decode cX10_isRow 17 = .ok (.iload_n 2, 1) := by decide +kernel
theorem dX10_isRow_18 : decode cX10_isRow 18 = .ok (.ifCond .lt 16, 3) := by decide +kernel
theorem dX10_isRow_21 : decode cX10_isRow 21 = .ok (.iload_n 2, 1) := by decide +kernel
theorem dX10_isRow_22 : decode cX10_isRow 22 = .ok (.aload_n 0, 1) := by decide +kernel
theorem dX10_isRow_23 : decode cX10_isRow 23 = .ok (.iload_n 1, 1) := by decide +kernel
theorem dX10_isRow_24 : decode cX10_isRow 24 = .ok (.invokevirtual 220, 3) := by decide +kernel
theorem dX10_isRow_27 : decode cX10_isRow 27 = .ok (.if_icmp .ge 7, 3) := by decide +kernel
theorem dX10_isRow_30 : decode cX10_isRow 30 = .ok (.iconst 1, 1) := by decide +kernel
theorem dX10_isRow_31 : decode cX10_isRow 31 = .ok (.goto 4, 3) := by decide +kernel
theorem dX10_isRow_34 : decode cX10_isRow 34 = .ok (.iconst 0, 1) := by decide +kernel
theorem dX10_isRow_35 : decode cX10_isRow 35 = .ok (.ireturn, 1) := by decide +kernel
theorem dX10_laysPair_0 : decode cX10_laysPair 0 = .ok (.iconst 0, 1) := by decide +kernel
theorem dX10_laysPair_1 : decode cX10_laysPair 1 = .ok (.istore_n 3, 1) := by decide +kernel
theorem dX10_laysPair_2 : decode cX10_laysPair 2 = .ok (.iconst 0, 1) := by decide +kernel
theorem dX10_laysPair_3 : decode cX10_laysPair 3 = .ok (.istore 4, 2) := by decide +kernel
theorem dX10_laysPair_5 : decode cX10_laysPair 5 = .ok (.iload 4, 2) := by decide +kernel
theorem dX10_laysPair_7 : decode cX10_laysPair 7 = .ok (.iload_n 2, 1) := by decide +kernel
theorem dX10_laysPair_8 : decode cX10_laysPair 8 = .ok (.if_icmp .ge 16, 3) := by decide +kernel
theorem dX10_laysPair_11 : decode cX10_laysPair 11 = .ok (.aload_n 0, 1) := by decide +kernel
theorem dX10_laysPair_12 : decode cX10_laysPair 12 = .ok (.iload_n 1, 1) := by decide +kernel
theorem dX10_laysPair_13 : decode cX10_laysPair 13 = .ok (.iload_n 3, 1) := by decide +kernel
theorem dX10_laysPair_14 : decode cX10_laysPair 14 = .ok (.invokevirtual 217, 3) := by decide +kernel
theorem dX10_laysPair_17 : decode cX10_laysPair 17 = .ok (.istore_n 3, 1) := by decide +kernel
theorem dX10_laysPair_18 : decode cX10_laysPair 18 = .ok (.iinc 4 1, 3) := by decide +kernel
theorem dX10_laysPair_21 : decode cX10_laysPair 21 = .ok (.goto (-16), 3) := by decide +kernel
theorem dX10_laysPair_24 : decode cX10_laysPair 24 = .ok (.aload_n 0, 1) := by decide +kernel
theorem dX10_laysPair_25 : decode cX10_laysPair 25 = .ok (.iload_n 1, 1) := by decide +kernel
theorem dX10_laysPair_26 : decode cX10_laysPair 26 = .ok (.iload_n 3, 1) := by decide +kernel
theorem dX10_laysPair_27 : decode cX10_laysPair 27 = .ok (.aload_n 0, 1) := by decide +kernel
theorem dX10_laysPair_28 : decode cX10_laysPair 28 = .ok (.iload_n 1, 1) := by decide +kernel
theorem dX10_laysPair_29 : decode cX10_laysPair 29 = .ok (.iload_n 3, 1) := by decide +kernel
theorem dX10_laysPair_30 : decode cX10_laysPair 30 = .ok (.invokevirtual 217, 3) := by decide +kernel
theorem dX10_laysPair_33 : decode cX10_laysPair 33 = .ok (.invokevirtual 213, 3) := by decide +kernel
theorem dX10_laysPair_36 : decode cX10_laysPair 36 = .ok (.return_, 1) := by decide +kernel
theorem dX10_rowLength_0 : decode cX10_rowLength 0 = .ok (.aload_n 0, 1) := by decide +kernel
theorem dX10_rowLength_1 : decode cX10_rowLength 1 = .ok (.iconst 0, 1) := by decide +kernel
theorem dX10_rowLength_2 : decode cX10_rowLength 2 = .ok (.putfield 46, 3) := by decide +kernel
theorem dX10_rowLength_5 : decode cX10_rowLength 5 = .ok (.aload_n 0, 1) := by decide +kernel
theorem dX10_rowLength_6 : decode cX10_rowLength 6 = .ok (.iload_n 1, 1) := by decide +kernel
theorem dX10_rowLength_7 : decode cX10_rowLength 7 = .ok (.iload_n 2, 1) := by decide +kernel
theorem dX10_rowLength_8 : decode cX10_rowLength 8 = .ok (.iload_n 3, 1) := by decide +kernel
theorem dX10_rowLength_9 : decode cX10_rowLength 9 = .ok (.invokevirtual 223, 3) := by decide +kernel
theorem dX10_rowLength_12 : decode cX10_rowLength 12 = .ok (.ifCond .ne 9, 3) := by decide +kernel
theorem dX10_rowLength_15 : decode cX10_rowLength 15 = .ok (.aload_n 0, 1) := by decide +kernel
theorem dX10_rowLength_16 : decode cX10_rowLength 16 = .ok (.iconst 1, 1) := by decide +kernel
theorem dX10_rowLength_17 : decode cX10_rowLength 17 = .ok (.invokevirtual 101, 3) := by decide +kernel
theorem dX10_rowLength_20 : decode cX10_rowLength 20 = .ok (.ireturn, 1) := by decide +kernel
theorem dX10_rowLength_21 : decode cX10_rowLength 21 = .ok (.aload_n 0, 1) := by decide +kernel
theorem dX10_rowLength_22 : decode cX10_rowLength 22 = .ok (.iload_n 1, 1) := by decide +kernel
theorem dX10_rowLength_23 : decode cX10_rowLength 23 = .ok (.iload_n 2, 1) := by decide +kernel
theorem dX10_rowLength_24 : decode cX10_rowLength 24 = .ok (.invokevirtual 226, 3) := by decide +kernel
theorem dX10_rowLength_27 : decode cX10_rowLength 27 = .ok (.iload_n 3, 1) := by decide +kernel
theorem dX10_rowLength_28 : decode cX10_rowLength 28 = .ok (.ifCond .ne 10, 3) := by decide +kernel
theorem dX10_rowLength_31 : decode cX10_rowLength 31 = .ok (.aload_n 0, 1) := by decide +kernel
theorem dX10_rowLength_32 : decode cX10_rowLength 32 = .ok (.getfield 200, 3) := by decide +kernel
theorem dX10_rowLength_35 : decode cX10_rowLength 35 = .ok (.goto 7, 3) := by decide +kernel
theorem dX10_rowLength_38 : decode cX10_rowLength 38 = .ok (.aload_n 0, 1) := by decide +kernel
theorem dX10_rowLength_39 : decode cX10_rowLength 39 = .ok (.getfield 203, 3) := by decide +kernel
theorem dX10_rowLength_42 : decode cX10_rowLength 42 = .ok (.ireturn, 1) := by decide +kernel
theorem dX10_rowChar_0 : decode cX10_rowChar 0 = .ok (.aload_n 0, 1) := by decide +kernel
theorem dX10_rowChar_1 : decode cX10_rowChar 1 = .ok (.iconst 0, 1) := by decide +kernel
theorem dX10_rowChar_2 : decode cX10_rowChar 2 = .ok (.putfield 46, 3) := by decide +kernel
theorem dX10_rowChar_5 : decode cX10_rowChar 5 = .ok (.aload_n 0, 1) := by decide +kernel
theorem dX10_rowChar_6 : decode cX10_rowChar 6 = .ok (.iload_n 1, 1) := by decide +kernel
theorem dX10_rowChar_7 : decode cX10_rowChar 7 = .ok (.iload_n 2, 1) := by decide +kernel
theorem dX10_rowChar_8 : decode cX10_rowChar 8 = .ok (.iload_n 3, 1) := by decide +kernel
theorem dX10_rowChar_9 : decode cX10_rowChar 9 = .ok (.invokevirtual 223, 3) := by decide +kernel
theorem dX10_rowChar_12 : decode cX10_rowChar 12 = .ok (.ifCond .eq 8, 3) := by decide +kernel
theorem dX10_rowChar_15 : decode cX10_rowChar 15 = .ok (.iload 4, 2) := by decide +kernel
theorem dX10_rowChar_17 : decode cX10_rowChar 17 = .ok (.ifCond .ge 9, 3) := by decide +kernel
theorem dX10_rowChar_20 : decode cX10_rowChar 20 = .ok (.aload_n 0, 1) := by decide +kernel
theorem dX10_rowChar_21 : decode cX10_rowChar 21 = .ok (.iconst 1, 1) := by decide +kernel
theorem dX10_rowChar_22 : decode cX10_rowChar 22 = .ok (.invokevirtual 101, 3) := by decide +kernel
theorem dX10_rowChar_25 : decode cX10_rowChar 25 = .ok (.ireturn, 1) := by decide +kernel
theorem dX10_rowChar_26 : decode cX10_rowChar 26 = .ok (.aload_n 0, 1) := by decide +kernel
theorem dX10_rowChar_27 : decode cX10_rowChar 27 = .ok (.iload_n 1, 1) := by decide +kernel
theorem dX10_rowChar_28 : decode cX10_rowChar 28 = .ok (.iload_n 2, 1) := by decide +kernel
theorem dX10_rowChar_29 : decode cX10_rowChar 29 = .ok (.invokevirtual 226, 3) := by decide +kernel
theorem dX10_rowChar_32 : decode cX10_rowChar 32 = .ok (.iload_n 3, 1) := by decide +kernel
theorem dX10_rowChar_33 : decode cX10_rowChar 33 = .ok (.ifCond .ne 24, 3) := by decide +kernel
theorem dX10_rowChar_36 : decode cX10_rowChar 36 = .ok (.iload 4, 2) := by decide +kernel
theorem dX10_rowChar_38 : decode cX10_rowChar 38 = .ok (.aload_n 0, 1) := by decide +kernel
theorem dX10_rowChar_39 : decode cX10_rowChar 39 = .ok (.getfield 200, 3) := by decide +kernel
theorem dX10_rowChar_42 : decode cX10_rowChar 42 = .ok (.if_icmp .ge 13, 3) := by decide +kernel
theorem dX10_rowChar_45 : decode cX10_rowChar 45 = .ok (.aload_n 0, 1) := by decide +kernel
theorem dX10_rowChar_46 : decode cX10_rowChar 46 = .ok (.getfield 40, 3) := by decide +kernel
theorem dX10_rowChar_49 : decode cX10_rowChar 49 = .ok (.iload 4, 2) := by decide +kernel
theorem dX10_rowChar_51 : decode cX10_rowChar 51 = .ok (.iaload, 1) := by decide +kernel
theorem dX10_rowChar_52 : decode cX10_rowChar 52 = .ok (.goto 4, 3) := by decide +kernel
theorem dX10_rowChar_55 : decode cX10_rowChar 55 = .ok (.iconst (-1), 1) := by decide +kernel
theorem dX10_rowChar_56 : decode cX10_rowChar 56 = .ok (.ireturn, 1) := by decide +kernel
theorem dX10_rowChar_57 : decode cX10_rowChar 57 = .ok (.iload 4, 2) := by decide +kernel
theorem dX10_rowChar_59 : decode cX10_rowChar 59 = .ok (.aload_n 0, 1) := by decide +kernel
theorem dX10_rowChar_60 : decode cX10_rowChar 60 = .ok (.getfield 203, 3) := by decide +kernel
theorem dX10_rowChar_63 : decode cX10_rowChar 63 = .ok (.if_icmp .ge 13, 3) := by decide +kernel
theorem dX10_rowChar_66 : decode cX10_rowChar 66 = .ok (.aload_n 0, 1) := by decide +kernel
theorem dX10_rowChar_67 : decode cX10_rowChar 67 = .ok (.getfield 43, 3) := by decide +kernel
theorem dX10_rowChar_70 : decode cX10_rowChar 70 = .ok (.iload 4, 2) := by decide +kernel
theorem dX10_rowChar_72 : decode cX10_rowChar 72 = .ok (.iaload, 1) := by decide +kernel
theorem dX10_rowChar_73 : decode cX10_rowChar 73 = .ok (.goto 4, 3) := by decide +kernel
theorem dX10_rowChar_76 : decode cX10_rowChar 76 = .ok (.iconst (-1), 1) := by decide +kernel
theorem dX10_rowChar_77 : decode cX10_rowChar 77 = .ok (.ireturn, 1) := by decide +kernel
theorem dX10_undo_0 : decode cX10_undo 0 = .ok (.aload_n 0, 1) := by decide +kernel
theorem dX10_undo_1 : decode cX10_undo 1 = .ok (.iconst 0, 1) := by decide +kernel
theorem dX10_undo_2 : decode cX10_undo 2 = .ok (.putfield 46, 3) := by decide +kernel
theorem dX10_undo_5 : decode cX10_undo 5 = .ok (.aload_n 0, 1) := by decide +kernel
theorem dX10_undo_6 : decode cX10_undo 6 = .ok (.getfield 49, 3) := by decide +kernel
theorem dX10_undo_9 : decode cX10_undo 9 = .ok (.ifCond .ne 9, 3) := by decide +kernel
theorem dX10_undo_12 : decode cX10_undo 12 = .ok (.aload_n 0, 1) := by decide +kernel
theorem dX10_undo_13 : decode cX10_undo 13 = .ok (.iconst 1, 1) := by decide +kernel
theorem dX10_undo_14 : decode cX10_undo 14 = .ok (.invokevirtual 101, 3) := by decide +kernel
theorem dX10_undo_17 : decode cX10_undo 17 = .ok (.ireturn, 1) := by decide +kernel
theorem dX10_undo_18 : decode cX10_undo 18 = .ok (.aload_n 0, 1) := by decide +kernel
theorem dX10_undo_19 : decode cX10_undo 19 = .ok (.dup, 1) := by decide +kernel
theorem dX10_undo_20 : decode cX10_undo 20 = .ok (.getfield 49, 3) := by decide +kernel
theorem dX10_undo_23 : decode cX10_undo 23 = .ok (.iconst 1, 1) := by decide +kernel
theorem dX10_undo_24 : decode cX10_undo 24 = .ok (.isub, 1) := by decide +kernel
theorem dX10_undo_25 : decode cX10_undo 25 = .ok (.putfield 49, 3) := by decide +kernel
theorem dX10_undo_28 : decode cX10_undo 28 = .ok (.iconst 0, 1) := by decide +kernel
theorem dX10_undo_29 : decode cX10_undo 29 = .ok (.istore_n 1, 1) := by decide +kernel
theorem dX10_undo_30 : decode cX10_undo 30 = .ok (.iload_n 1, 1) := by decide +kernel
theorem dX10_undo_31 : decode cX10_undo 31 = .ok (.sipush 620, 3) := by decide +kernel
theorem dX10_undo_34 : decode cX10_undo 34 = .ok (.if_icmp .ge 30, 3) := by decide +kernel
theorem dX10_undo_37 : decode cX10_undo 37 = .ok (.aload_n 0, 1) := by decide +kernel
theorem dX10_undo_38 : decode cX10_undo 38 = .ok (.getfield 7, 3) := by decide +kernel
theorem dX10_undo_41 : decode cX10_undo 41 = .ok (.iload_n 1, 1) := by decide +kernel
theorem dX10_undo_42 : decode cX10_undo 42 = .ok (.aload_n 0, 1) := by decide +kernel
theorem dX10_undo_43 : decode cX10_undo 43 = .ok (.getfield 13, 3) := by decide +kernel
theorem dX10_undo_46 : decode cX10_undo 46 = .ok (.sipush 620, 3) := by decide +kernel
theorem dX10_undo_49 : decode cX10_undo 49 = .ok (.aload_n 0, 1) := by decide +kernel
theorem dX10_undo_50 : decode cX10_undo 50 = .ok (.getfield 49, 3) := by decide +kernel
theorem dX10_undo_53 : decode cX10_undo 53 = .ok (.imul, 1) := by decide +kernel
theorem dX10_undo_54 : decode cX10_undo 54 = .ok (.iload_n 1, 1) := by decide +kernel
theorem dX10_undo_55 : decode cX10_undo 55 = .ok (.iadd, 1) := by decide +kernel
theorem dX10_undo_56 : decode cX10_undo 56 = .ok (.iaload, 1) := by decide +kernel
theorem dX10_undo_57 : decode cX10_undo 57 = .ok (.iastore, 1) := by decide +kernel
theorem dX10_undo_58 : decode cX10_undo 58 = .ok (.iinc 1 1, 3) := by decide +kernel
theorem dX10_undo_61 : decode cX10_undo 61 = .ok (.goto (-31), 3) := by decide +kernel
theorem dX10_undo_64 : decode cX10_undo 64 = .ok (.aload_n 0, 1) := by decide +kernel
theorem dX10_undo_65 : decode cX10_undo 65 = .ok (.getfield 49, 3) := by decide +kernel
theorem dX10_undo_68 : decode cX10_undo 68 = .ok (.ireturn, 1) := by decide +kernel
theorem dX10_fingerprint_0 : decode cX10_fingerprint 0 = .ok (.aload_n 0, 1) := by decide +kernel
theorem dX10_fingerprint_1 : decode cX10_fingerprint 1 = .ok (.iconst 0, 1) := by decide +kernel
theorem dX10_fingerprint_2 : decode cX10_fingerprint 2 = .ok (.putfield 46, 3) := by decide +kernel
theorem dX10_fingerprint_5 : decode cX10_fingerprint 5 = .ok (.ldc2_w 229, 3) := by decide +kernel
theorem dX10_fingerprint_8 : decode cX10_fingerprint 8 = .ok (.aload_n 0, 1) := by decide +kernel
theorem dX10_fingerprint_9 : decode cX10_fingerprint 9 = .ok (.getfield 7, 3) := by decide +kernel
theorem dX10_fingerprint_12 : decode cX10_fingerprint 12 = .ok (.iconst 0, 1) := by decide +kernel
theorem dX10_fingerprint_13 : decode cX10_fingerprint 13 = .ok (.iaload, 1) := by decide +kernel
theorem dX10_fingerprint_14 : decode cX10_fingerprint 14 = .ok (.i2l, 1) := by decide +kernel
theorem dX10_fingerprint_15 : decode cX10_fingerprint 15 = .ok (.ladd, 1) := by decide +kernel
theorem dX10_fingerprint_16 : decode cX10_fingerprint 16 = .ok (.lstore_n 1, 1) := by decide +kernel
theorem dX10_fingerprint_17 : decode cX10_fingerprint 17 = .ok (.iconst 0, 1) := by decide +kernel
theorem dX10_fingerprint_18 : decode cX10_fingerprint 18 = .ok (.istore_n 3, 1) := by decide +kernel
theorem dX10_fingerprint_19 : decode cX10_fingerprint 19 = .ok (.iload_n 3, 1) := by decide +kernel
theorem dX10_fingerprint_20 : decode cX10_fingerprint 20 = .ok (.aload_n 0, 1) := by decide +kernel
theorem dX10_fingerprint_21 : decode cX10_fingerprint 21 = .ok (.getfield 7, 3) := by decide +kernel
theorem dX10_fingerprint_24 : decode cX10_fingerprint 24 = .ok (.iconst 0, 1) := by decide +kernel
theorem dX10_fingerprint_25 : decode cX10_fingerprint 25 = .ok (.iaload, 1) := by decide +kernel
theorem dX10_fingerprint_26 : decode cX10_fingerprint 26 = .ok (.if_icmp .ge 56, 3) := by decide +kernel
theorem dX10_fingerprint_29 : decode cX10_fingerprint 29 = .ok (.ldc2_w 231, 3) := by decide +kernel
theorem dX10_fingerprint_32 : decode cX10_fingerprint 32 = .ok (.lload_n 1, 1) := by decide +kernel
theorem dX10_fingerprint_33 : decode cX10_fingerprint 33 = .ok (.lmul, 1) := by decide +kernel
theorem dX10_fingerprint_34 : decode cX10_fingerprint 34 = .ok (.aload_n 0, 1) := by decide +kernel
theorem dX10_fingerprint_35 : decode cX10_fingerprint 35 = .ok (.iload_n 3, 1) := by decide +kernel
theorem dX10_fingerprint_36 : decode cX10_fingerprint 36 = .ok (.invokevirtual 120, 3) := by decide +kernel
theorem dX10_fingerprint_39 : decode cX10_fingerprint 39 = .ok (.i2l, 1) := by decide +kernel
theorem dX10_fingerprint_40 : decode cX10_fingerprint 40 = .ok (.ladd, 1) := by decide +kernel
theorem dX10_fingerprint_41 : decode cX10_fingerprint 41 = .ok (.lstore_n 1, 1) := by decide +kernel
theorem dX10_fingerprint_42 : decode cX10_fingerprint 42 = .ok (.iconst 0, 1) := by decide +kernel
theorem dX10_fingerprint_43 : decode cX10_fingerprint 43 = .ok (.istore 4, 2) := by decide +kernel
theorem dX10_fingerprint_45 : decode cX10_fingerprint 45 = .ok (.iload 4, 2) := by decide +kernel
theorem dX10_fingerprint_47 : decode cX10_fingerprint 47 = .ok (.aload_n 0, 1) := by decide +kernel
theorem dX10_fingerprint_48 : decode cX10_fingerprint 48 = .ok (.iload_n 3, 1) := by decide +kernel
theorem dX10_fingerprint_49 : decode cX10_fingerprint 49 = .ok (.invokevirtual 120, 3) := by decide +kernel
theorem dX10_fingerprint_52 : decode cX10_fingerprint 52 = .ok (.if_icmp .ge 24, 3) := by decide +kernel
theorem dX10_fingerprint_55 : decode cX10_fingerprint 55 = .ok (.ldc2_w 231, 3) := by decide +kernel
theorem dX10_fingerprint_58 : decode cX10_fingerprint 58 = .ok (.lload_n 1, 1) := by decide +kernel
theorem dX10_fingerprint_59 : decode cX10_fingerprint 59 = .ok (.lmul, 1) := by decide +kernel
theorem dX10_fingerprint_60 : decode cX10_fingerprint 60 = .ok (.aload_n 0, 1) := by decide +kernel
theorem dX10_fingerprint_61 : decode cX10_fingerprint 61 = .ok (.iload_n 3, 1) := by decide +kernel
theorem dX10_fingerprint_62 : decode cX10_fingerprint 62 = .ok (.iload 4, 2) := by decide +kernel
theorem dX10_fingerprint_64 : decode cX10_fingerprint 64 = .ok (.invokevirtual 123, 3) := by decide +kernel
theorem dX10_fingerprint_67 : decode cX10_fingerprint 67 = .ok (.i2l, 1) := by decide +kernel
theorem dX10_fingerprint_68 : decode cX10_fingerprint 68 = .ok (.ladd, 1) := by decide +kernel
theorem dX10_fingerprint_69 : decode cX10_fingerprint 69 = .ok (.lstore_n 1, 1) := by decide +kernel
theorem dX10_fingerprint_70 : decode cX10_fingerprint 70 = .ok (.iinc 4 1, 3) := by decide +kernel
theorem dX10_fingerprint_73 : decode cX10_fingerprint 73 = .ok (.goto (-28), 3) := by decide +kernel
theorem dX10_fingerprint_76 : decode cX10_fingerprint 76 = .ok (.iinc 3 1, 3) := by decide +kernel
theorem dX10_fingerprint_79 : decode cX10_fingerprint 79 = .ok (.goto (-60), 3) := by decide +kernel
theorem dX10_fingerprint_82 : decode cX10_fingerprint 82 = .ok (.iconst 0, 1) := by decide +kernel
theorem dX10_fingerprint_83 : decode cX10_fingerprint 83 = .ok (.istore_n 3, 1) := by decide +kernel
theorem dX10_fingerprint_84 : decode cX10_fingerprint 84 = .ok (.iload_n 3, 1) := by decide +kernel
theorem dX10_fingerprint_85 : decode cX10_fingerprint 85 = .ok (.aload_n 0, 1) := by decide +kernel
theorem dX10_fingerprint_86 : decode cX10_fingerprint 86 = .ok (.getfield 7, 3) := by decide +kernel
theorem dX10_fingerprint_89 : decode cX10_fingerprint 89 = .ok (.iconst 1, 1) := by decide +kernel
theorem dX10_fingerprint_90 : decode cX10_fingerprint 90 = .ok (.iaload, 1) := by decide +kernel
theorem dX10_fingerprint_91 : decode cX10_fingerprint 91 = .ok (.if_icmp .ge 44, 3) := by decide +kernel
theorem dX10_fingerprint_94 : decode cX10_fingerprint 94 = .ok (.iconst 0, 1) := by decide +kernel
theorem dX10_fingerprint_95 : decode cX10_fingerprint 95 = .ok (.istore 4, 2) := by decide +kernel
theorem dX10_fingerprint_97 : decode cX10_fingerprint 97 = .ok (.iload 4, 2) := by decide +kernel
theorem dX10_fingerprint_99 : decode cX10_fingerprint 99 = .ok (.iconst 5, 1) := by decide +kernel
theorem dX10_fingerprint_100 : decode cX10_fingerprint 100 = .ok (.if_icmp .ge 29, 3) := by decide +kernel
theorem dX10_fingerprint_103 : decode cX10_fingerprint 103 = .ok (.ldc2_w 231, 3) := by decide +kernel
theorem dX10_fingerprint_106 : decode cX10_fingerprint 106 = .ok (.lload_n 1, 1) := by decide +kernel
theorem dX10_fingerprint_107 : decode cX10_fingerprint 107 = .ok (.lmul, 1) := by decide +kernel
theorem dX10_fingerprint_108 : decode cX10_fingerprint 108 = .ok (.aload_n 0, 1) := by decide +kernel
theorem dX10_fingerprint_109 : decode cX10_fingerprint 109 = .ok (.getfield 7, 3) := by decide +kernel
theorem dX10_fingerprint_112 : decode cX10_fingerprint 112 = .ok (.iload_n 3, 1) := by decide +kernel
theorem dX10_fingerprint_113 : decode cX10_fingerprint 113 = .ok (.invokestatic 94, 3) := by decide +kernel
theorem dX10_fingerprint_116 : decode cX10_fingerprint 116 = .ok (.iload 4, 2) := by decide +kernel
theorem dX10_fingerprint_118 : decode cX10_fingerprint 118 = .ok (.iadd, 1) := by decide +kernel
theorem dX10_fingerprint_119 : decode cX10_fingerprint 119 = .ok (.iaload, 1) := by decide +kernel
theorem dX10_fingerprint_120 : decode cX10_fingerprint 120 = .ok (.i2l, 1) := by decide +kernel
theorem dX10_fingerprint_121 : decode cX10_fingerprint 121 = .ok (.ladd, 1) := by decide +kernel
theorem dX10_fingerprint_122 : decode cX10_fingerprint 122 = .ok (.lstore_n 1, 1) := by decide +kernel
theorem dX10_fingerprint_123 : decode cX10_fingerprint 123 = .ok (.iinc 4 1, 3) := by decide +kernel
theorem dX10_fingerprint_126 : decode cX10_fingerprint 126 = .ok (.goto (-29), 3) := by decide +kernel
theorem dX10_fingerprint_129 : decode cX10_fingerprint 129 = .ok (.iinc 3 1, 3) := by decide +kernel
theorem dX10_fingerprint_132 : decode cX10_fingerprint 132 = .ok (.goto (-48), 3) := by decide +kernel
theorem dX10_fingerprint_135 : decode cX10_fingerprint 135 = .ok (.ldc2_w 231, 3) := by decide +kernel
theorem dX10_fingerprint_138 : decode cX10_fingerprint 138 = .ok (.ldc2_w 231, 3) := by decide +kernel
theorem dX10_fingerprint_141 : decode cX10_fingerprint 141 = .ok (.lload_n 1, 1) := by decide +kernel
theorem dX10_fingerprint_142 : decode cX10_fingerprint 142 = .ok (.lmul, 1) := by decide +kernel
theorem dX10_fingerprint_143 : decode cX10_fingerprint 143 = .ok (.aload_n 0, 1) := by decide +kernel
theorem dX10_fingerprint_144 : decode cX10_fingerprint 144 = .ok (.getfield 7, 3) := by decide +kernel
theorem dX10_fingerprint_147 : decode cX10_fingerprint 147 = .ok (.iconst 2, 1) := by decide +kernel
theorem dX10_fingerprint_148 : decode cX10_fingerprint 148 = .ok (.iaload, 1) := by decide +kernel
theorem dX10_fingerprint_149 : decode cX10_fingerprint 149 = .ok (.i2l, 1) := by decide +kernel
theorem dX10_fingerprint_150 : decode cX10_fingerprint 150 = .ok (.ladd, 1) := by decide +kernel
theorem dX10_fingerprint_151 : decode cX10_fingerprint 151 = .ok (.lmul, 1) := by decide +kernel
theorem dX10_fingerprint_152 : decode cX10_fingerprint 152 = .ok (.aload_n 0, 1) := by decide +kernel
theorem dX10_fingerprint_153 : decode cX10_fingerprint 153 = .ok (.getfield 7, 3) := by decide +kernel
theorem dX10_fingerprint_156 : decode cX10_fingerprint 156 = .ok (.iconst 3, 1) := by decide +kernel
theorem dX10_fingerprint_157 : decode cX10_fingerprint 157 = .ok (.iaload, 1) := by decide +kernel
theorem dX10_fingerprint_158 : decode cX10_fingerprint 158 = .ok (.i2l, 1) := by decide +kernel
theorem dX10_fingerprint_159 : decode cX10_fingerprint 159 = .ok (.ladd, 1) := by decide +kernel
theorem dX10_fingerprint_160 : decode cX10_fingerprint 160 = .ok (.lreturn, 1) := by decide +kernel
end
section
theorem dL_type_0 : decode cL_type 0 = .ok (.aload_n 2, 1) := by decide +kernel
theorem dL_type_1 : decode cL_type 1 = .ok (.iconst 0, 1) := by decide +kernel
theorem dL_type_2 : decode cL_type 2 = .ok (.aload_n 0, 1) := by decide +kernel
theorem dL_type_3 : decode cL_type 3 = .ok (.iload_n 1, 1) := by decide +kernel
theorem dL_type_4 : decode cL_type 4 = .ok (.invokevirtual 7, 3) := by decide +kernel
theorem dL_type_7 : decode cL_type 7 = .ok (.i2l, 1) := by decide +kernel
theorem dL_type_8 : decode cL_type 8 = .ok (.lastore, 1) := by decide +kernel
theorem dL_type_9 : decode cL_type 9 = .ok (.goto 9, 3) := by decide +kernel
theorem dL_type_12 : decode cL_type 12 = .ok (.astore_n 3, 1) := by decide +kernel
theorem dL_type_13 : decode cL_type 13 = .ok (.iconst 1, 1) := by decide +kernel
theorem dL_type_14 : decode cL_type 14 = .ok (.ireturn, 1) := by decide +kernel
theorem dL_type_15 : decode cL_type 15 = .ok (.astore_n 3, 1) := by decide +kernel
theorem dL_type_16 : decode cL_type 16 = .ok (.iconst 2, 1) := by decide +kernel
theorem dL_type_17 : decode cL_type 17 = .ok (.ireturn, 1) := by decide +kernel
theorem dL_type_18 : decode cL_type 18 = .ok (.iconst 0, 1) := by decide +kernel
theorem dL_type_19 : decode cL_type 19 = .ok (.ireturn, 1) := by decide +kernel
theorem dL_setWidth_0 : decode cL_setWidth 0 = .ok (.aload_n 2, 1) := by decide +kernel
theorem dL_setWidth_1 : decode cL_setWidth 1 = .ok (.iconst 0, 1) := by decide +kernel
theorem dL_setWidth_2 : decode cL_setWidth 2 = .ok (.aload_n 0, 1) := by decide +kernel
theorem dL_setWidth_3 : decode cL_setWidth 3 = .ok (.iload_n 1, 1) := by decide +kernel
theorem dL_setWidth_4 : decode cL_setWidth 4 = .ok (.invokevirtual 17, 3) := by decide +kernel
theorem dL_setWidth_7 : decode cL_setWidth 7 = .ok (.i2l, 1) := by decide +kernel
theorem dL_setWidth_8 : decode cL_setWidth 8 = .ok (.lastore, 1) := by decide +kernel
theorem dL_setWidth_9 : decode cL_setWidth 9 = .ok (.goto 6, 3) := by decide +kernel
theorem dL_setWidth_12 : decode cL_setWidth 12 = .ok (.astore_n 3, 1) := by decide +kernel
theorem dL_setWidth_13 : decode cL_setWidth 13 = .ok (.iconst 1, 1) := by decide +kernel
theorem dL_setWidth_14 : decode cL_setWidth 14 = .ok (.ireturn, 1) := by decide +kernel
theorem dL_setWidth_15 : decode cL_setWidth 15 = .ok (.iconst 0, 1) := by decide +kernel
theorem dL_setWidth_16 : decode cL_setWidth 16 = .ok (.ireturn, 1) := by decide +kernel
theorem dL_lyrics_0 : decode cL_lyrics 0 = .ok (.aload_n 2, 1) := by decide +kernel
theorem dL_lyrics_1 : decode cL_lyrics 1 = .ok (.iconst 0, 1) := by decide +kernel
theorem dL_lyrics_2 : decode cL_lyrics 2 = .ok (.aload_n 0, 1) := by decide +kernel
theorem dL_lyrics_3 : decode cL_lyrics 3 = .ok (.iload_n 1, 1) := by decide +kernel
theorem dL_lyrics_4 : decode cL_lyrics 4 = .ok (.invokevirtual 20, 3) := by decide +kernel
theorem dL_lyrics_7 : decode cL_lyrics 7 = .ok (.i2l, 1) := by decide +kernel
theorem dL_lyrics_8 : decode cL_lyrics 8 = .ok (.lastore, 1) := by decide +kernel
theorem dL_lyrics_9 : decode cL_lyrics 9 = .ok (.goto 6, 3) := by decide +kernel
theorem dL_lyrics_12 : decode cL_lyrics 12 = .ok (.astore_n 3, 1) := by decide +kernel
theorem dL_lyrics_13 : decode cL_lyrics 13 = .ok (.iconst 1, 1) := by decide +kernel
theorem dL_lyrics_14 : decode cL_lyrics 14 = .ok (.ireturn, 1) := by decide +kernel
theorem dL_lyrics_15 : decode cL_lyrics 15 = .ok (.iconst 0, 1) := by decide +kernel
theorem dL_lyrics_16 : decode cL_lyrics 16 = .ok (.ireturn, 1) := by decide +kernel
theorem dL_lyric_0 : decode cL_lyric 0 = .ok (.aload_n 3, 1) := by decide +kernel
theorem dL_lyric_1 : decode cL_lyric 1 = .ok (.iconst 0, 1) := by decide +kernel
theorem dL_lyric_2 : decode cL_lyric 2 = .ok (.aload_n 0, 1) := by decide +kernel
theorem dL_lyric_3 : decode cL_lyric 3 = .ok (.iload_n 1, 1) := by decide +kernel
theorem dL_lyric_4 : decode cL_lyric 4 = .ok (.iload_n 2, 1) := by decide +kernel
theorem dL_lyric_5 : decode cL_lyric 5 = .ok (.invokevirtual 25, 3) := by decide +kernel
theorem dL_lyric_8 : decode cL_lyric 8 = .ok (.i2l, 1) := by decide +kernel
theorem dL_lyric_9 : decode cL_lyric 9 = .ok (.lastore, 1) := by decide +kernel
theorem dL_lyric_10 : decode cL_lyric 10 = .ok (.goto 7, 3) := by decide +kernel
theorem dL_lyric_13 : decode cL_lyric 13 = .ok (.astore 4, 2) := by decide +kernel
theorem dL_lyric_15 : decode cL_lyric 15 = .ok (.iconst 1, 1) := by decide +kernel
theorem dL_lyric_16 : decode cL_lyric 16 = .ok (.ireturn, 1) := by decide +kernel
theorem dL_lyric_17 : decode cL_lyric 17 = .ok (.iconst 0, 1) := by decide +kernel
theorem dL_lyric_18 : decode cL_lyric 18 = .ok (.ireturn, 1) := by decide +kernel
theorem dL_lineOf_0 : decode cL_lineOf 0 = .ok (.aload_n 2, 1) := by decide +kernel
theorem dL_lineOf_1 : decode cL_lineOf 1 = .ok (.iconst 0, 1) := by decide +kernel
theorem dL_lineOf_2 : decode cL_lineOf 2 = .ok (.aload_n 0, 1) := by decide +kernel
theorem dL_lineOf_3 : decode cL_lineOf 3 = .ok (.iload_n 1, 1) := by decide +kernel
theorem dL_lineOf_4 : decode cL_lineOf 4 = .ok (.invokevirtual 29, 3) := by decide +kernel
theorem dL_lineOf_7 : decode cL_lineOf 7 = .ok (.i2l, 1) := by decide +kernel
theorem dL_lineOf_8 : decode cL_lineOf 8 = .ok (.lastore, 1) := by decide +kernel
theorem dL_lineOf_9 : decode cL_lineOf 9 = .ok (.goto 6, 3) := by decide +kernel
theorem dL_lineOf_12 : decode cL_lineOf 12 = .ok (.astore_n 3, 1) := by decide +kernel
theorem dL_lineOf_13 : decode cL_lineOf 13 = .ok (.iconst 1, 1) := by decide +kernel
theorem dL_lineOf_14 : decode cL_lineOf 14 = .ok (.ireturn, 1) := by decide +kernel
theorem dL_lineOf_15 : decode cL_lineOf 15 = .ok (.iconst 0, 1) := by decide +kernel
theorem dL_lineOf_16 : decode cL_lineOf 16 = .ok (.ireturn, 1) := by decide +kernel
theorem dL_columnOf_0 : decode cL_columnOf 0 = .ok (.aload_n 2, 1) := by decide +kernel
theorem dL_columnOf_1 : decode cL_columnOf 1 = .ok (.iconst 0, 1) := by decide +kernel
theorem dL_columnOf_2 : decode cL_columnOf 2 = .ok (.aload_n 0, 1) := by decide +kernel
theorem dL_columnOf_3 : decode cL_columnOf 3 = .ok (.iload_n 1, 1) := by decide +kernel
theorem dL_columnOf_4 : decode cL_columnOf 4 = .ok (.invokevirtual 32, 3) := by decide +kernel
theorem dL_columnOf_7 : decode cL_columnOf 7 = .ok (.i2l, 1) := by decide +kernel
theorem dL_columnOf_8 : decode cL_columnOf 8 = .ok (.lastore, 1) := by decide +kernel
theorem dL_columnOf_9 : decode cL_columnOf 9 = .ok (.goto 6, 3) := by decide +kernel
theorem dL_columnOf_12 : decode cL_columnOf 12 = .ok (.astore_n 3, 1) := by decide +kernel
theorem dL_columnOf_13 : decode cL_columnOf 13 = .ok (.iconst 1, 1) := by decide +kernel
theorem dL_columnOf_14 : decode cL_columnOf 14 = .ok (.ireturn, 1) := by decide +kernel
theorem dL_columnOf_15 : decode cL_columnOf 15 = .ok (.iconst 0, 1) := by decide +kernel
theorem dL_columnOf_16 : decode cL_columnOf 16 = .ok (.ireturn, 1) := by decide +kernel
theorem dL_rootOf_0 : decode cL_rootOf 0 = .ok (.aload_n 2, 1) := by decide +kernel
theorem dL_rootOf_1 : decode cL_rootOf 1 = .ok (.iconst 0, 1) := by decide +kernel
theorem dL_rootOf_2 : decode cL_rootOf 2 = .ok (.aload_n 0, 1) := by decide +kernel
theorem dL_rootOf_3 : decode cL_rootOf 3 = .ok (.iload_n 1, 1) := by decide +kernel
theorem dL_rootOf_4 : decode cL_rootOf 4 = .ok (.invokevirtual 35, 3) := by decide +kernel
theorem dL_rootOf_7 : decode cL_rootOf 7 = .ok (.i2l, 1) := by decide +kernel
theorem dL_rootOf_8 : decode cL_rootOf 8 = .ok (.lastore, 1) := by decide +kernel
theorem dL_rootOf_9 : decode cL_rootOf 9 = .ok (.goto 6, 3) := by decide +kernel
theorem dL_rootOf_12 : decode cL_rootOf 12 = .ok (.astore_n 3, 1) := by decide +kernel
theorem dL_rootOf_13 : decode cL_rootOf 13 = .ok (.iconst 1, 1) := by decide +kernel
theorem dL_rootOf_14 : decode cL_rootOf 14 = .ok (.ireturn, 1) := by decide +kernel
theorem dL_rootOf_15 : decode cL_rootOf 15 = .ok (.iconst 0, 1) := by decide +kernel
theorem dL_rootOf_16 : decode cL_rootOf 16 = .ok (.ireturn, 1) := by decide +kernel
theorem dL_qualityOf_0 : decode cL_qualityOf 0 = .ok (.aload_n 2, 1) := by decide +kernel
theorem dL_qualityOf_1 : decode cL_qualityOf 1 = .ok (.iconst 0, 1) := by decide +kernel
theorem dL_qualityOf_2 : decode cL_qualityOf 2 = .ok (.aload_n 0, 1) := by decide +kernel
theorem dL_qualityOf_3 : decode cL_qualityOf 3 = .ok (.iload_n 1, 1) := by decide +kernel
theorem dL_qualityOf_4 : decode cL_qualityOf 4 = .ok (.invokevirtual 38, 3) := by decide +kernel
theorem dL_qualityOf_7 : decode cL_qualityOf 7 = .ok (.i2l, 1) := by decide +kernel
theorem dL_qualityOf_8 : decode cL_qualityOf 8 = .ok (.lastore, 1) := by decide +kernel
theorem dL_qualityOf_9 : decode cL_qualityOf 9 = .ok (.goto 6, 3) := by decide +kernel
theorem dL_qualityOf_12 : decode cL_qualityOf 12 = .ok (.astore_n 3, 1) := by decide +kernel
theorem dL_qualityOf_13 : decode cL_qualityOf 13 = .ok (.iconst 1, 1) := by decide +kernel
theorem dL_qualityOf_14 : decode cL_qualityOf 14 = .ok (.ireturn, 1) := by decide +kernel
theorem dL_qualityOf_15 : decode cL_qualityOf 15 = .ok (.iconst 0, 1) := by decide +kernel
theorem dL_qualityOf_16 : decode cL_qualityOf 16 = .ok (.ireturn, 1) := by decide +kernel
theorem dL_bassOf_0 : decode cL_bassOf 0 = .ok (.aload_n 2, 1) := by decide +kernel
theorem dL_bassOf_1 : decode cL_bassOf 1 = .ok (.iconst 0, 1) := by decide +kernel
theorem dL_bassOf_2 : decode cL_bassOf 2 = .ok (.aload_n 0, 1) := by decide +kernel
theorem dL_bassOf_3 : decode cL_bassOf 3 = .ok (.iload_n 1, 1) := by decide +kernel
theorem dL_bassOf_4 : decode cL_bassOf 4 = .ok (.invokevirtual 41, 3) := by decide +kernel
theorem dL_bassOf_7 : decode cL_bassOf 7 = .ok (.i2l, 1) := by decide +kernel
theorem dL_bassOf_8 : decode cL_bassOf 8 = .ok (.lastore, 1) := by decide +kernel
theorem dL_bassOf_9 : decode cL_bassOf 9 = .ok (.goto 6, 3) := by decide +kernel
theorem dL_bassOf_12 : decode cL_bassOf 12 = .ok (.astore_n 3, 1) := by decide +kernel
theorem dL_bassOf_13 : decode cL_bassOf 13 = .ok (.iconst 1, 1) := by decide +kernel
theorem dL_bassOf_14 : decode cL_bassOf 14 = .ok (.ireturn, 1) := by decide +kernel
theorem dL_bassOf_15 : decode cL_bassOf 15 = .ok (.iconst 0, 1) := by decide +kernel
theorem dL_bassOf_16 : decode cL_bassOf 16 = .ok (.ireturn, 1) := by decide +kernel
theorem dL_nameChar_0 : decode cL_nameChar 0 = .ok (.aload_n 3, 1) := by decide +kernel
theorem dL_nameChar_1 : decode cL_nameChar 1 = .ok (.iconst 0, 1) := by decide +kernel
theorem dL_nameChar_2 : decode cL_nameChar 2 = .ok (.aload_n 0, 1) := by decide +kernel
theorem dL_nameChar_3 : decode cL_nameChar 3 = .ok (.iload_n 1, 1) := by decide +kernel
theorem dL_nameChar_4 : decode cL_nameChar 4 = .ok (.iload_n 2, 1) := by decide +kernel
theorem dL_nameChar_5 : decode cL_nameChar 5 = .ok (.invokevirtual 44, 3) := by decide +kernel
theorem dL_nameChar_8 : decode cL_nameChar 8 = .ok (.i2l, 1) := by decide +kernel
theorem dL_nameChar_9 : decode cL_nameChar 9 = .ok (.lastore, 1) := by decide +kernel
theorem dL_nameChar_10 : decode cL_nameChar 10 = .ok (.goto 7, 3) := by decide +kernel
theorem dL_nameChar_13 : decode cL_nameChar 13 = .ok (.astore 4, 2) := by decide +kernel
theorem dL_nameChar_15 : decode cL_nameChar 15 = .ok (.iconst 1, 1) := by decide +kernel
theorem dL_nameChar_16 : decode cL_nameChar 16 = .ok (.ireturn, 1) := by decide +kernel
theorem dL_nameChar_17 : decode cL_nameChar 17 = .ok (.iconst 0, 1) := by decide +kernel
theorem dL_nameChar_18 : decode cL_nameChar 18 = .ok (.ireturn, 1) := by decide +kernel
theorem dL_setChord_0 : decode cL_setChord 0 = .ok (.aload_n 2, 1) := by decide +kernel
theorem dL_setChord_1 : decode cL_setChord 1 = .ok (.iconst 0, 1) := by decide +kernel
theorem dL_setChord_2 : decode cL_setChord 2 = .ok (.aload_n 0, 1) := by decide +kernel
theorem dL_setChord_3 : decode cL_setChord 3 = .ok (.iload_n 1, 1) := by decide +kernel
theorem dL_setChord_4 : decode cL_setChord 4 = .ok (.invokevirtual 47, 3) := by decide +kernel
theorem dL_setChord_7 : decode cL_setChord 7 = .ok (.i2l, 1) := by decide +kernel
theorem dL_setChord_8 : decode cL_setChord 8 = .ok (.lastore, 1) := by decide +kernel
theorem dL_setChord_9 : decode cL_setChord 9 = .ok (.goto 6, 3) := by decide +kernel
theorem dL_setChord_12 : decode cL_setChord 12 = .ok (.astore_n 3, 1) := by decide +kernel
theorem dL_setChord_13 : decode cL_setChord 13 = .ok (.iconst 1, 1) := by decide +kernel
theorem dL_setChord_14 : decode cL_setChord 14 = .ok (.ireturn, 1) := by decide +kernel
theorem dL_setChord_15 : decode cL_setChord 15 = .ok (.iconst 0, 1) := by decide +kernel
theorem dL_setChord_16 : decode cL_setChord 16 = .ok (.ireturn, 1) := by decide +kernel
theorem dL_addChord_0 : decode cL_addChord 0 = .ok (.aload_n 3, 1) := by decide +kernel
theorem dL_addChord_1 : decode cL_addChord 1 = .ok (.iconst 0, 1) := by decide +kernel
theorem dL_addChord_2 : decode cL_addChord 2 = .ok (.aload_n 0, 1) := by decide +kernel
theorem dL_addChord_3 : decode cL_addChord 3 = .ok (.iload_n 1, 1) := by decide +kernel
theorem dL_addChord_4 : decode cL_addChord 4 = .ok (.iload_n 2, 1) := by decide +kernel
theorem dL_addChord_5 : decode cL_addChord 5 = .ok (.invokevirtual 50, 3) := by decide +kernel
theorem dL_addChord_8 : decode cL_addChord 8 = .ok (.i2l, 1) := by decide +kernel
theorem dL_addChord_9 : decode cL_addChord 9 = .ok (.lastore, 1) := by decide +kernel
theorem dL_addChord_10 : decode cL_addChord 10 = .ok (.goto 11, 3) := by decide +kernel
theorem dL_addChord_13 : decode cL_addChord 13 = .ok (.astore 4, 2) := by decide +kernel
theorem dL_addChord_15 : decode cL_addChord 15 = .ok (.iconst 1, 1) := by decide +kernel
theorem dL_addChord_16 : decode cL_addChord 16 = .ok (.ireturn, 1) := by decide +kernel
theorem dL_addChord_17 : decode cL_addChord 17 = .ok (.astore 4, 2) := by decide +kernel
theorem dL_addChord_19 : decode cL_addChord 19 = .ok (.iconst 2, 1) := by decide +kernel
theorem dL_addChord_20 : decode cL_addChord 20 = .ok (.ireturn, 1) := by decide +kernel
theorem dL_addChord_21 : decode cL_addChord 21 = .ok (.iconst 0, 1) := by decide +kernel
theorem dL_addChord_22 : decode cL_addChord 22 = .ok (.ireturn, 1) := by decide +kernel
theorem dL_removeChord_0 : decode cL_removeChord 0 = .ok (.aload_n 2, 1) := by decide +kernel
theorem dL_removeChord_1 : decode cL_removeChord 1 = .ok (.iconst 0, 1) := by decide +kernel
theorem dL_removeChord_2 : decode cL_removeChord 2 = .ok (.aload_n 0, 1) := by decide +kernel
theorem dL_removeChord_3 : decode cL_removeChord 3 = .ok (.iload_n 1, 1) := by decide +kernel
theorem dL_removeChord_4 : decode cL_removeChord 4 = .ok (.invokevirtual 53, 3) := by decide +kernel
theorem dL_removeChord_7 : decode cL_removeChord 7 = .ok (.i2l, 1) := by decide +kernel
theorem dL_removeChord_8 : decode cL_removeChord 8 = .ok (.lastore, 1) := by decide +kernel
theorem dL_removeChord_9 : decode cL_removeChord 9 = .ok (.goto 6, 3) := by decide +kernel
theorem dL_removeChord_12 : decode cL_removeChord 12 = .ok (.astore_n 3, 1) := by decide +kernel
theorem dL_removeChord_13 : decode cL_removeChord 13 = .ok (.iconst 1, 1) := by decide +kernel
theorem dL_removeChord_14 : decode cL_removeChord 14 = .ok (.ireturn, 1) := by decide +kernel
theorem dL_removeChord_15 : decode cL_removeChord 15 = .ok (.iconst 0, 1) := by decide +kernel
theorem dL_removeChord_16 : decode cL_removeChord 16 = .ok (.ireturn, 1) := by decide +kernel
theorem dL_moveChord_0 : decode cL_moveChord 0 = .ok (.aload_n 3, 1) := by decide +kernel
theorem dL_moveChord_1 : decode cL_moveChord 1 = .ok (.iconst 0, 1) := by decide +kernel
theorem dL_moveChord_2 : decode cL_moveChord 2 = .ok (.aload_n 0, 1) := by decide +kernel
theorem dL_moveChord_3 : decode cL_moveChord 3 = .ok (.iload_n 1, 1) := by decide +kernel
theorem dL_moveChord_4 : decode cL_moveChord 4 = .ok (.iload_n 2, 1) := by decide +kernel
theorem dL_moveChord_5 : decode cL_moveChord 5 = .ok (.invokevirtual 56, 3) := by decide +kernel
theorem dL_moveChord_8 : decode cL_moveChord 8 = .ok (.i2l, 1) := by decide +kernel
theorem dL_moveChord_9 : decode cL_moveChord 9 = .ok (.lastore, 1) := by decide +kernel
theorem dL_moveChord_10 : decode cL_moveChord 10 = .ok (.goto 7, 3) := by decide +kernel
theorem dL_moveChord_13 : decode cL_moveChord 13 = .ok (.astore 4, 2) := by decide +kernel
theorem dL_moveChord_15 : decode cL_moveChord 15 = .ok (.iconst 1, 1) := by decide +kernel
theorem dL_moveChord_16 : decode cL_moveChord 16 = .ok (.ireturn, 1) := by decide +kernel
theorem dL_moveChord_17 : decode cL_moveChord 17 = .ok (.iconst 0, 1) := by decide +kernel
theorem dL_moveChord_18 : decode cL_moveChord 18 = .ok (.ireturn, 1) := by decide +kernel
theorem dL_commonTones_0 : decode cL_commonTones 0 = .ok (.aload_n 2, 1) := by decide +kernel
theorem dL_commonTones_1 : decode cL_commonTones 1 = .ok (.iconst 0, 1) := by decide +kernel
theorem dL_commonTones_2 : decode cL_commonTones 2 = .ok (.aload_n 0, 1) := by decide +kernel
theorem dL_commonTones_3 : decode cL_commonTones 3 = .ok (.iload_n 1, 1) := by decide +kernel
theorem dL_commonTones_4 : decode cL_commonTones 4 = .ok (.invokevirtual 59, 3) := by decide +kernel
theorem dL_commonTones_7 : decode cL_commonTones 7 = .ok (.i2l, 1) := by decide +kernel
theorem dL_commonTones_8 : decode cL_commonTones 8 = .ok (.lastore, 1) := by decide +kernel
theorem dL_commonTones_9 : decode cL_commonTones 9 = .ok (.goto 6, 3) := by decide +kernel
theorem dL_commonTones_12 : decode cL_commonTones 12 = .ok (.astore_n 3, 1) := by decide +kernel
theorem dL_commonTones_13 : decode cL_commonTones 13 = .ok (.iconst 1, 1) := by decide +kernel
theorem dL_commonTones_14 : decode cL_commonTones 14 = .ok (.ireturn, 1) := by decide +kernel
theorem dL_commonTones_15 : decode cL_commonTones 15 = .ok (.iconst 0, 1) := by decide +kernel
theorem dL_commonTones_16 : decode cL_commonTones 16 = .ok (.ireturn, 1) := by decide +kernel
theorem dL_degree_0 : decode cL_degree 0 = .ok (.aload_n 2, 1) := by decide +kernel
theorem dL_degree_1 : decode cL_degree 1 = .ok (.iconst 0, 1) := by decide +kernel
theorem dL_degree_2 : decode cL_degree 2 = .ok (.aload_n 0, 1) := by decide +kernel
theorem dL_degree_3 : decode cL_degree 3 = .ok (.iload_n 1, 1) := by decide +kernel
theorem dL_degree_4 : decode cL_degree 4 = .ok (.invokevirtual 62, 3) := by decide +kernel
theorem dL_degree_7 : decode cL_degree 7 = .ok (.i2l, 1) := by decide +kernel
theorem dL_degree_8 : decode cL_degree 8 = .ok (.lastore, 1) := by decide +kernel
theorem dL_degree_9 : decode cL_degree 9 = .ok (.goto 6, 3) := by decide +kernel
theorem dL_degree_12 : decode cL_degree 12 = .ok (.astore_n 3, 1) := by decide +kernel
theorem dL_degree_13 : decode cL_degree 13 = .ok (.iconst 1, 1) := by decide +kernel
theorem dL_degree_14 : decode cL_degree 14 = .ok (.ireturn, 1) := by decide +kernel
theorem dL_degree_15 : decode cL_degree 15 = .ok (.iconst 0, 1) := by decide +kernel
theorem dL_degree_16 : decode cL_degree 16 = .ok (.ireturn, 1) := by decide +kernel
theorem dL_setKey_0 : decode cL_setKey 0 = .ok (.aload_n 3, 1) := by decide +kernel
theorem dL_setKey_1 : decode cL_setKey 1 = .ok (.iconst 0, 1) := by decide +kernel
theorem dL_setKey_2 : decode cL_setKey 2 = .ok (.aload_n 0, 1) := by decide +kernel
theorem dL_setKey_3 : decode cL_setKey 3 = .ok (.iload_n 1, 1) := by decide +kernel
theorem dL_setKey_4 : decode cL_setKey 4 = .ok (.iload_n 2, 1) := by decide +kernel
theorem dL_setKey_5 : decode cL_setKey 5 = .ok (.invokevirtual 65, 3) := by decide +kernel
theorem dL_setKey_8 : decode cL_setKey 8 = .ok (.i2l, 1) := by decide +kernel
theorem dL_setKey_9 : decode cL_setKey 9 = .ok (.lastore, 1) := by decide +kernel
theorem dL_setKey_10 : decode cL_setKey 10 = .ok (.goto 7, 3) := by decide +kernel
theorem dL_setKey_13 : decode cL_setKey 13 = .ok (.astore 4, 2) := by decide +kernel
theorem dL_setKey_15 : decode cL_setKey 15 = .ok (.iconst 1, 1) := by decide +kernel
theorem dL_setKey_16 : decode cL_setKey 16 = .ok (.ireturn, 1) := by decide +kernel
theorem dL_setKey_17 : decode cL_setKey 17 = .ok (.iconst 0, 1) := by decide +kernel
theorem dL_setKey_18 : decode cL_setKey 18 = .ok (.ireturn, 1) := by decide +kernel
theorem dL_score_0 : decode cL_score 0 = .ok (.aload_n 3, 1) := by decide +kernel
theorem dL_score_1 : decode cL_score 1 = .ok (.iconst 0, 1) := by decide +kernel
theorem dL_score_2 : decode cL_score 2 = .ok (.aload_n 0, 1) := by decide +kernel
theorem dL_score_3 : decode cL_score 3 = .ok (.iload_n 1, 1) := by decide +kernel
theorem dL_score_4 : decode cL_score 4 = .ok (.iload_n 2, 1) := by decide +kernel
theorem dL_score_5 : decode cL_score 5 = .ok (.invokevirtual 69, 3) := by decide +kernel
theorem dL_score_8 : decode cL_score 8 = .ok (.i2l, 1) := by decide +kernel
theorem dL_score_9 : decode cL_score 9 = .ok (.lastore, 1) := by decide +kernel
theorem dL_score_10 : decode cL_score 10 = .ok (.goto 7, 3) := by decide +kernel
theorem dL_score_13 : decode cL_score 13 = .ok (.astore 4, 2) := by decide +kernel
theorem dL_score_15 : decode cL_score 15 = .ok (.iconst 1, 1) := by decide +kernel
theorem dL_score_16 : decode cL_score 16 = .ok (.ireturn, 1) := by decide +kernel
theorem dL_score_17 : decode cL_score 17 = .ok (.iconst 0, 1) := by decide +kernel
theorem dL_score_18 : decode cL_score 18 = .ok (.ireturn, 1) := by decide +kernel
theorem dL_transpose_0 : decode cL_transpose 0 = .ok (.aload_n 2, 1) := by decide +kernel
theorem dL_transpose_1 : decode cL_transpose 1 = .ok (.iconst 0, 1) := by decide +kernel
theorem dL_transpose_2 : decode cL_transpose 2 = .ok (.aload_n 0, 1) := by decide +kernel
theorem dL_transpose_3 : decode cL_transpose 3 = .ok (.iload_n 1, 1) := by decide +kernel
theorem dL_transpose_4 : decode cL_transpose 4 = .ok (.invokevirtual 72, 3) := by decide +kernel
theorem dL_transpose_7 : decode cL_transpose 7 = .ok (.i2l, 1) := by decide +kernel
theorem dL_transpose_8 : decode cL_transpose 8 = .ok (.lastore, 1) := by decide +kernel
theorem dL_transpose_9 : decode cL_transpose 9 = .ok (.goto 6, 3) := by decide +kernel
theorem dL_transpose_12 : decode cL_transpose 12 = .ok (.astore_n 3, 1) := by decide +kernel
theorem dL_transpose_13 : decode cL_transpose 13 = .ok (.iconst 1, 1) := by decide +kernel
theorem dL_transpose_14 : decode cL_transpose 14 = .ok (.ireturn, 1) := by decide +kernel
theorem dL_transpose_15 : decode cL_transpose 15 = .ok (.iconst 0, 1) := by decide +kernel
theorem dL_transpose_16 : decode cL_transpose 16 = .ok (.ireturn, 1) := by decide +kernel
theorem dL_difficulty_0 : decode cL_difficulty 0 = .ok (.aload_n 2, 1) := by decide +kernel
theorem dL_difficulty_1 : decode cL_difficulty 1 = .ok (.iconst 0, 1) := by decide +kernel
theorem dL_difficulty_2 : decode cL_difficulty 2 = .ok (.aload_n 0, 1) := by decide +kernel
theorem dL_difficulty_3 : decode cL_difficulty 3 = .ok (.iload_n 1, 1) := by decide +kernel
theorem dL_difficulty_4 : decode cL_difficulty 4 = .ok (.invokevirtual 75, 3) := by decide +kernel
theorem dL_difficulty_7 : decode cL_difficulty 7 = .ok (.i2l, 1) := by decide +kernel
theorem dL_difficulty_8 : decode cL_difficulty 8 = .ok (.lastore, 1) := by decide +kernel
theorem dL_difficulty_9 : decode cL_difficulty 9 = .ok (.goto 6, 3) := by decide +kernel
theorem dL_difficulty_12 : decode cL_difficulty 12 = .ok (.astore_n 3, 1) := by decide +kernel
theorem dL_difficulty_13 : decode cL_difficulty 13 = .ok (.iconst 1, 1) := by decide +kernel
theorem dL_difficulty_14 : decode cL_difficulty 14 = .ok (.ireturn, 1) := by decide +kernel
theorem dL_difficulty_15 : decode cL_difficulty 15 = .ok (.iconst 0, 1) := by decide +kernel
theorem dL_difficulty_16 : decode cL_difficulty 16 = .ok (.ireturn, 1) := by decide +kernel
theorem dL_pairs_0 : decode cL_pairs 0 = .ok (.aload_n 2, 1) := by decide +kernel
theorem dL_pairs_1 : decode cL_pairs 1 = .ok (.iconst 0, 1) := by decide +kernel
theorem dL_pairs_2 : decode cL_pairs 2 = .ok (.aload_n 0, 1) := by decide +kernel
theorem dL_pairs_3 : decode cL_pairs 3 = .ok (.iload_n 1, 1) := by decide +kernel
theorem dL_pairs_4 : decode cL_pairs 4 = .ok (.invokevirtual 78, 3) := by decide +kernel
theorem dL_pairs_7 : decode cL_pairs 7 = .ok (.i2l, 1) := by decide +kernel
theorem dL_pairs_8 : decode cL_pairs 8 = .ok (.lastore, 1) := by decide +kernel
theorem dL_pairs_9 : decode cL_pairs 9 = .ok (.goto 6, 3) := by decide +kernel
theorem dL_pairs_12 : decode cL_pairs 12 = .ok (.astore_n 3, 1) := by decide +kernel
theorem dL_pairs_13 : decode cL_pairs 13 = .ok (.iconst 1, 1) := by decide +kernel
theorem dL_pairs_14 : decode cL_pairs 14 = .ok (.ireturn, 1) := by decide +kernel
theorem dL_pairs_15 : decode cL_pairs 15 = .ok (.iconst 0, 1) := by decide +kernel
theorem dL_pairs_16 : decode cL_pairs 16 = .ok (.ireturn, 1) := by decide +kernel
theorem dL_rowLength_0 : decode cL_rowLength 0 = .ok (.aload 4, 2) := by decide +kernel
theorem dL_rowLength_2 : decode cL_rowLength 2 = .ok (.iconst 0, 1) := by decide +kernel
theorem dL_rowLength_3 : decode cL_rowLength 3 = .ok (.aload_n 0, 1) := by decide +kernel
theorem dL_rowLength_4 : decode cL_rowLength 4 = .ok (.iload_n 1, 1) := by decide +kernel
theorem dL_rowLength_5 : decode cL_rowLength 5 = .ok (.iload_n 2, 1) := by decide +kernel
theorem dL_rowLength_6 : decode cL_rowLength 6 = .ok (.iload_n 3, 1) := by decide +kernel
theorem dL_rowLength_7 : decode cL_rowLength 7 = .ok (.invokevirtual 81, 3) := by decide +kernel
theorem dL_rowLength_10 : decode cL_rowLength 10 = .ok (.i2l, 1) := by decide +kernel
theorem dL_rowLength_11 : decode cL_rowLength 11 = .ok (.lastore, 1) := by decide +kernel
theorem dL_rowLength_12 : decode cL_rowLength 12 = .ok (.goto 7, 3) := by decide +kernel
theorem dL_rowLength_15 : decode cL_rowLength 15 = .ok (.astore 5, 2) := by decide +kernel
theorem dL_rowLength_17 : decode cL_rowLength 17 = .ok (.iconst 1, 1) := by decide +kernel
theorem dL_rowLength_18 : decode cL_rowLength 18 = .ok (.ireturn, 1) := by decide +kernel
theorem dL_rowLength_19 : decode cL_rowLength 19 = .ok (.iconst 0, 1) := by decide +kernel
theorem dL_rowLength_20 : decode cL_rowLength 20 = .ok (.ireturn, 1) := by decide +kernel
theorem dL_rowChar_0 : decode cL_rowChar 0 = .ok (.aload 5, 2) := by decide +kernel
theorem dL_rowChar_2 : decode cL_rowChar 2 = .ok (.iconst 0, 1) := by decide +kernel
theorem dL_rowChar_3 : decode cL_rowChar 3 = .ok (.aload_n 0, 1) := by decide +kernel
theorem dL_rowChar_4 : decode cL_rowChar 4 = .ok (.iload_n 1, 1) := by decide +kernel
theorem dL_rowChar_5 : decode cL_rowChar 5 = .ok (.iload_n 2, 1) := by decide +kernel
theorem dL_rowChar_6 : decode cL_rowChar 6 = .ok (.iload_n 3, 1) := by decide +kernel
theorem dL_rowChar_7 : decode cL_rowChar 7 = .ok (.iload 4, 2) := by decide +kernel
theorem dL_rowChar_9 : decode cL_rowChar 9 = .ok (.invokevirtual 85, 3) := by decide +kernel
theorem dL_rowChar_12 : decode cL_rowChar 12 = .ok (.i2l, 1) := by decide +kernel
theorem dL_rowChar_13 : decode cL_rowChar 13 = .ok (.lastore, 1) := by decide +kernel
theorem dL_rowChar_14 : decode cL_rowChar 14 = .ok (.goto 7, 3) := by decide +kernel
theorem dL_rowChar_17 : decode cL_rowChar 17 = .ok (.astore 6, 2) := by decide +kernel
theorem dL_rowChar_19 : decode cL_rowChar 19 = .ok (.iconst 1, 1) := by decide +kernel
theorem dL_rowChar_20 : decode cL_rowChar 20 = .ok (.ireturn, 1) := by decide +kernel
theorem dL_rowChar_21 : decode cL_rowChar 21 = .ok (.iconst 0, 1) := by decide +kernel
theorem dL_rowChar_22 : decode cL_rowChar 22 = .ok (.ireturn, 1) := by decide +kernel
theorem dL_undo_0 : decode cL_undo 0 = .ok (.aload_n 1, 1) := by decide +kernel
theorem dL_undo_1 : decode cL_undo 1 = .ok (.iconst 0, 1) := by decide +kernel
theorem dL_undo_2 : decode cL_undo 2 = .ok (.aload_n 0, 1) := by decide +kernel
theorem dL_undo_3 : decode cL_undo 3 = .ok (.invokevirtual 89, 3) := by decide +kernel
theorem dL_undo_6 : decode cL_undo 6 = .ok (.i2l, 1) := by decide +kernel
theorem dL_undo_7 : decode cL_undo 7 = .ok (.lastore, 1) := by decide +kernel
theorem dL_undo_8 : decode cL_undo 8 = .ok (.goto 6, 3) := by decide +kernel
theorem dL_undo_11 : decode cL_undo 11 = .ok (.astore_n 2, 1) := by decide +kernel
theorem dL_undo_12 : decode cL_undo 12 = .ok (.iconst 1, 1) := by decide +kernel
theorem dL_undo_13 : decode cL_undo 13 = .ok (.ireturn, 1) := by decide +kernel
theorem dL_undo_14 : decode cL_undo 14 = .ok (.iconst 0, 1) := by decide +kernel
theorem dL_undo_15 : decode cL_undo 15 = .ok (.ireturn, 1) := by decide +kernel
theorem dL_law_0 : decode cL_law 0 = .ok (.new 8, 3) := by decide +kernel
theorem dL_law_3 : decode cL_law 3 = .ok (.dup, 1) := by decide +kernel
theorem dL_law_4 : decode cL_law 4 = .ok (.invokespecial 93, 3) := by decide +kernel
theorem dL_law_7 : decode cL_law 7 = .ok (.astore_n 1, 1) := by decide +kernel
theorem dL_law_8 : decode cL_law 8 = .ok (.new 94, 3) := by decide +kernel
theorem dL_law_11 : decode cL_law 11 = .ok (.dup, 1) := by decide +kernel
theorem dL_law_12 : decode cL_law 12 = .ok (.invokespecial 96, 3) := by decide +kernel
theorem dL_law_15 : decode cL_law 15 = .ok (.astore_n 2, 1) := by decide +kernel
theorem dL_law_16 : decode cL_law 16 = .ok (.iconst 1, 1) := by decide +kernel
theorem dL_law_17 : decode cL_law 17 = .ok (.newarray .long, 2) := by decide +kernel
theorem dL_law_19 : decode cL_law 19 = .ok (.astore_n 3, 1) := by decide +kernel
theorem dL_law_20 : decode cL_law 20 = .ok (.iconst 0, 1) := by decide +kernel
theorem dL_law_21 : decode cL_law 21 = .ok (.istore 4, 2) := by decide +kernel
theorem dL_law_23 : decode cL_law 23 = .ok (.iload 4, 2) := by decide +kernel
theorem dL_law_25 : decode cL_law 25 = .ok (.aload_n 0, 1) := by decide +kernel
theorem dL_law_26 : decode cL_law 26 = .ok (.arraylength, 1) := by decide +kernel
theorem dL_law_27 : decode cL_law 27 = .ok (.iconst 5, 1) := by decide +kernel
theorem dL_law_28 : decode cL_law 28 = .ok (.isub, 1) := by decide +kernel
theorem dL_law_29 : decode cL_law 29 = .ok (.if_icmp .gt 1899, 3) := by decide +kernel
theorem dL_law_32 : decode cL_law 32 = .ok (.aload_n 0, 1) := by decide +kernel
theorem dL_law_33 : decode cL_law 33 = .ok (.iload 4, 2) := by decide +kernel
theorem dL_law_35 : decode cL_law 35 = .ok (.iaload, 1) := by decide +kernel
theorem dL_law_36 : decode cL_law 36 = .ok (.bipush 63, 2) := by decide +kernel
theorem dL_law_38 : decode cL_law 38 = .ok (.iand, 1) := by decide +kernel
theorem dL_law_39 : decode cL_law 39 = .ok (.tableswitch 1883 0 36 #[161, 217, 230, 243, 284, 325, 381, 394, 450, 518, 531, 587, 643, 699, 755, 811, 879, 935, 1003, 1059, 1127, 1183, 1239, 1252, 1265, 1278, 1362, 1446, 1459, 1515, 1528, 1584, 1597, 1653, 1733, 1825, 1869], 161) := by decide +kernel
theorem dL_law_200 : decode cL_law 200 = .ok (.aload_n 1, 1) := by decide +kernel
theorem dL_law_201 : decode cL_law 201 = .ok (.aload_n 0, 1) := by decide +kernel
theorem dL_law_202 : decode cL_law 202 = .ok (.iload 4, 2) := by decide +kernel
theorem dL_law_204 : decode cL_law 204 = .ok (.iconst 1, 1) := by decide +kernel
theorem dL_law_205 : decode cL_law 205 = .ok (.iadd, 1) := by decide +kernel
theorem dL_law_206 : decode cL_law 206 = .ok (.iaload, 1) := by decide +kernel
theorem dL_law_207 : decode cL_law 207 = .ok (.aload_n 3, 1) := by decide +kernel
theorem dL_law_208 : decode cL_law 208 = .ok (.invokestatic 97, 3) := by decide +kernel
theorem dL_law_211 : decode cL_law 211 = .ok (.istore 5, 2) := by decide +kernel
theorem dL_law_213 : decode cL_law 213 = .ok (.aload_n 2, 1) := by decide +kernel
theorem dL_law_214 : decode cL_law 214 = .ok (.aload_n 0, 1) := by decide +kernel
theorem dL_law_215 : decode cL_law 215 = .ok (.iload 4, 2) := by decide +kernel
theorem dL_law_217 : decode cL_law 217 = .ok (.iconst 1, 1) := by decide +kernel
theorem dL_law_218 : decode cL_law 218 = .ok (.iadd, 1) := by decide +kernel
theorem dL_law_219 : decode cL_law 219 = .ok (.iaload, 1) := by decide +kernel
theorem dL_law_220 : decode cL_law 220 = .ok (.invokevirtual 102, 3) := by decide +kernel
theorem dL_law_223 : decode cL_law 223 = .ok (.istore 6, 2) := by decide +kernel
theorem dL_law_225 : decode cL_law 225 = .ok (.aload_n 2, 1) := by decide +kernel
theorem dL_law_226 : decode cL_law 226 = .ok (.invokevirtual 103, 3) := by decide +kernel
theorem dL_law_229 : decode cL_law 229 = .ok (.iload 5, 2) := by decide +kernel
theorem dL_law_231 : decode cL_law 231 = .ok (.if_icmp .eq 5, 3) := by decide +kernel
theorem dL_law_234 : decode cL_law 234 = .ok (.iconst 0, 1) := by decide +kernel
theorem dL_law_235 : decode cL_law 235 = .ok (.ireturn, 1) := by decide +kernel
theorem dL_law_236 : decode cL_law 236 = .ok (.iload 5, 2) := by decide +kernel
theorem dL_law_238 : decode cL_law 238 = .ok (.ifCond .ne 15, 3) := by decide +kernel
theorem dL_law_241 : decode cL_law 241 = .ok (.aload_n 3, 1) := by decide +kernel
theorem dL_law_242 : decode cL_law 242 = .ok (.iconst 0, 1) := by decide +kernel
theorem dL_law_243 : decode cL_law 243 = .ok (.laload, 1) := by decide +kernel
theorem dL_law_244 : decode cL_law 244 = .ok (.iload 6, 2) := by decide +kernel
theorem dL_law_246 : decode cL_law 246 = .ok (.i2l, 1) := by decide +kernel
theorem dL_law_247 : decode cL_law 247 = .ok (.lcmp, 1) := by decide +kernel
theorem dL_law_248 : decode cL_law 248 = .ok (.ifCond .eq 5, 3) := by decide +kernel
theorem dL_law_251 : decode cL_law 251 = .ok (.iconst 0, 1) := by decide +kernel
theorem dL_law_252 : decode cL_law 252 = .ok (.ireturn, 1) := by decide +kernel
theorem dL_law_253 : decode cL_law 253 = .ok (.goto 1669, 3) := by decide +kernel
theorem dL_law_256 : decode cL_law 256 = .ok (.aload_n 1, 1) := by decide +kernel
theorem dL_law_257 : decode cL_law 257 = .ok (.invokevirtual 106, 3) := by decide +kernel
theorem dL_law_260 : decode cL_law 260 = .ok (.aload_n 2, 1) := by decide +kernel
theorem dL_law_261 : decode cL_law 261 = .ok (.invokevirtual 109, 3) := by decide +kernel
theorem dL_law_264 : decode cL_law 264 = .ok (.if_icmp .eq 1658, 3) := by decide +kernel
theorem dL_law_267 : decode cL_law 267 = .ok (.iconst 0, 1) := by decide +kernel
theorem dL_law_268 : decode cL_law 268 = .ok (.ireturn, 1) := by decide +kernel
theorem dL_law_269 : decode cL_law 269 = .ok (.aload_n 1, 1) := by decide +kernel
theorem dL_law_270 : decode cL_law 270 = .ok (.invokevirtual 110, 3) := by decide +kernel
theorem dL_law_273 : decode cL_law 273 = .ok (.aload_n 2, 1) := by decide +kernel
theorem dL_law_274 : decode cL_law 274 = .ok (.invokevirtual 113, 3) := by decide +kernel
theorem dL_law_277 : decode cL_law 277 = .ok (.if_icmp .eq 1645, 3) := by decide +kernel
theorem dL_law_280 : decode cL_law 280 = .ok (.iconst 0, 1) := by decide +kernel
theorem dL_law_281 : decode cL_law 281 = .ok (.ireturn, 1) := by decide +kernel
theorem dL_law_282 : decode cL_law 282 = .ok (.aload_n 1, 1) := by decide +kernel
theorem dL_law_283 : decode cL_law 283 = .ok (.aload_n 0, 1) := by decide +kernel
theorem dL_law_284 : decode cL_law 284 = .ok (.iload 4, 2) := by decide +kernel
theorem dL_law_286 : decode cL_law 286 = .ok (.iconst 1, 1) := by decide +kernel
theorem dL_law_287 : decode cL_law 287 = .ok (.iadd, 1) := by decide +kernel
theorem dL_law_288 : decode cL_law 288 = .ok (.iaload, 1) := by decide +kernel
theorem dL_law_289 : decode cL_law 289 = .ok (.ifCond .eq 7, 3) := by decide +kernel
theorem dL_law_292 : decode cL_law 292 = .ok (.iconst 1, 1) := by decide +kernel
theorem dL_law_293 : decode cL_law 293 = .ok (.goto 4, 3) := by decide +kernel
theorem dL_law_296 : decode cL_law 296 = .ok (.iconst 0, 1) := by decide +kernel
theorem dL_law_297 : decode cL_law 297 = .ok (.invokevirtual 114, 3) := by decide +kernel
theorem dL_law_300 : decode cL_law 300 = .ok (.aload_n 2, 1) := by decide +kernel
theorem dL_law_301 : decode cL_law 301 = .ok (.aload_n 0, 1) := by decide +kernel
theorem dL_law_302 : decode cL_law 302 = .ok (.iload 4, 2) := by decide +kernel
theorem dL_law_304 : decode cL_law 304 = .ok (.iconst 1, 1) := by decide +kernel
theorem dL_law_305 : decode cL_law 305 = .ok (.iadd, 1) := by decide +kernel
theorem dL_law_306 : decode cL_law 306 = .ok (.iaload, 1) := by decide +kernel
theorem dL_law_307 : decode cL_law 307 = .ok (.ifCond .eq 7, 3) := by decide +kernel
theorem dL_law_310 : decode cL_law 310 = .ok (.iconst 1, 1) := by decide +kernel
theorem dL_law_311 : decode cL_law 311 = .ok (.goto 4, 3) := by decide +kernel
theorem dL_law_314 : decode cL_law 314 = .ok (.iconst 0, 1) := by decide +kernel
theorem dL_law_315 : decode cL_law 315 = .ok (.invokevirtual 118, 3) := by decide +kernel
theorem dL_law_318 : decode cL_law 318 = .ok (.if_icmp .eq 1604, 3) := by decide +kernel
theorem dL_law_321 : decode cL_law 321 = .ok (.iconst 0, 1) := by decide +kernel
theorem dL_law_322 : decode cL_law 322 = .ok (.ireturn, 1) := by decide +kernel
theorem dL_law_323 : decode cL_law 323 = .ok (.aload_n 1, 1) := by decide +kernel
theorem dL_law_324 : decode cL_law 324 = .ok (.aload_n 0, 1) := by decide +kernel
theorem dL_law_325 : decode cL_law 325 = .ok (.iload 4, 2) := by decide +kernel
theorem dL_law_327 : decode cL_law 327 = .ok (.iconst 1, 1) := by decide +kernel
theorem dL_law_328 : decode cL_law 328 = .ok (.iadd, 1) := by decide +kernel
theorem dL_law_329 : decode cL_law 329 = .ok (.iaload, 1) := by decide +kernel
theorem dL_law_330 : decode cL_law 330 = .ok (.ifCond .eq 7, 3) := by decide +kernel
theorem dL_law_333 : decode cL_law 333 = .ok (.iconst 1, 1) := by decide +kernel
theorem dL_law_334 : decode cL_law 334 = .ok (.goto 4, 3) := by decide +kernel
theorem dL_law_337 : decode cL_law 337 = .ok (.iconst 0, 1) := by decide +kernel
theorem dL_law_338 : decode cL_law 338 = .ok (.invokevirtual 119, 3) := by decide +kernel
theorem dL_law_341 : decode cL_law 341 = .ok (.aload_n 2, 1) := by decide +kernel
theorem dL_law_342 : decode cL_law 342 = .ok (.aload_n 0, 1) := by decide +kernel
theorem dL_law_343 : decode cL_law 343 = .ok (.iload 4, 2) := by decide +kernel
theorem dL_law_345 : decode cL_law 345 = .ok (.iconst 1, 1) := by decide +kernel
theorem dL_law_346 : decode cL_law 346 = .ok (.iadd, 1) := by decide +kernel
theorem dL_law_347 : decode cL_law 347 = .ok (.iaload, 1) := by decide +kernel
theorem dL_law_348 : decode cL_law 348 = .ok (.ifCond .eq 7, 3) := by decide +kernel
theorem dL_law_351 : decode cL_law 351 = .ok (.iconst 1, 1) := by decide +kernel
theorem dL_law_352 : decode cL_law 352 = .ok (.goto 4, 3) := by decide +kernel
theorem dL_law_355 : decode cL_law 355 = .ok (.iconst 0, 1) := by decide +kernel
theorem dL_law_356 : decode cL_law 356 = .ok (.invokevirtual 122, 3) := by decide +kernel
theorem dL_law_359 : decode cL_law 359 = .ok (.if_icmp .eq 1563, 3) := by decide +kernel
theorem dL_law_362 : decode cL_law 362 = .ok (.iconst 0, 1) := by decide +kernel
theorem dL_law_363 : decode cL_law 363 = .ok (.ireturn, 1) := by decide +kernel
theorem dL_law_364 : decode cL_law 364 = .ok (.aload_n 1, 1) := by decide +kernel
theorem dL_law_365 : decode cL_law 365 = .ok (.aload_n 0, 1) := by decide +kernel
theorem dL_law_366 : decode cL_law 366 = .ok (.iload 4, 2) := by decide +kernel
theorem dL_law_368 : decode cL_law 368 = .ok (.iconst 1, 1) := by decide +kernel
theorem dL_law_369 : decode cL_law 369 = .ok (.iadd, 1) := by decide +kernel
theorem dL_law_370 : decode cL_law 370 = .ok (.iaload, 1) := by decide +kernel
theorem dL_law_371 : decode cL_law 371 = .ok (.aload_n 3, 1) := by decide +kernel
theorem dL_law_372 : decode cL_law 372 = .ok (.invokestatic 123, 3) := by decide +kernel
theorem dL_law_375 : decode cL_law 375 = .ok (.istore 5, 2) := by decide +kernel
theorem dL_law_377 : decode cL_law 377 = .ok (.aload_n 2, 1) := by decide +kernel
theorem dL_law_378 : decode cL_law 378 = .ok (.aload_n 0, 1) := by decide +kernel
theorem dL_law_379 : decode cL_law 379 = .ok (.iload 4, 2) := by decide +kernel
theorem dL_law_381 : decode cL_law 381 = .ok (.iconst 1, 1) := by decide +kernel
theorem dL_law_382 : decode cL_law 382 = .ok (.iadd, 1) := by decide +kernel
theorem dL_law_383 : decode cL_law 383 = .ok (.iaload, 1) := by decide +kernel
theorem dL_law_384 : decode cL_law 384 = .ok (.invokevirtual 125, 3) := by decide +kernel
theorem dL_law_387 : decode cL_law 387 = .ok (.istore 6, 2) := by decide +kernel
theorem dL_law_389 : decode cL_law 389 = .ok (.aload_n 2, 1) := by decide +kernel
theorem dL_law_390 : decode cL_law 390 = .ok (.invokevirtual 103, 3) := by decide +kernel
theorem dL_law_393 : decode cL_law 393 = .ok (.iload 5, 2) := by decide +kernel
theorem dL_law_395 : decode cL_law 395 = .ok (.if_icmp .eq 5, 3) := by decide +kernel
theorem dL_law_398 : decode cL_law 398 = .ok (.iconst 0, 1) := by decide +kernel
theorem dL_law_399 : decode cL_law 399 = .ok (.ireturn, 1) := by decide +kernel
theorem dL_law_400 : decode cL_law 400 = .ok (.iload 5, 2) := by decide +kernel
theorem dL_law_402 : decode cL_law 402 = .ok (.ifCond .ne 15, 3) := by decide +kernel
theorem dL_law_405 : decode cL_law 405 = .ok (.aload_n 3, 1) := by decide +kernel
theorem dL_law_406 : decode cL_law 406 = .ok (.iconst 0, 1) := by decide +kernel
theorem dL_law_407 : decode cL_law 407 = .ok (.laload, 1) := by decide +kernel
theorem dL_law_408 : decode cL_law 408 = .ok (.iload 6, 2) := by decide +kernel
theorem dL_law_410 : decode cL_law 410 = .ok (.i2l, 1) := by decide +kernel
theorem dL_law_411 : decode cL_law 411 = .ok (.lcmp, 1) := by decide +kernel
theorem dL_law_412 : decode cL_law 412 = .ok (.ifCond .eq 5, 3) := by decide +kernel
theorem dL_law_415 : decode cL_law 415 = .ok (.iconst 0, 1) := by decide +kernel
theorem dL_law_416 : decode cL_law 416 = .ok (.ireturn, 1) := by decide +kernel
theorem dL_law_417 : decode cL_law 417 = .ok (.goto 1505, 3) := by decide +kernel
theorem dL_law_420 : decode cL_law 420 = .ok (.aload_n 1, 1) := by decide +kernel
theorem dL_law_421 : decode cL_law 421 = .ok (.invokevirtual 126, 3) := by decide +kernel
theorem dL_law_424 : decode cL_law 424 = .ok (.aload_n 2, 1) := by decide +kernel
theorem dL_law_425 : decode cL_law 425 = .ok (.invokevirtual 129, 3) := by decide +kernel
theorem dL_law_428 : decode cL_law 428 = .ok (.if_icmp .eq 1494, 3) := by decide +kernel
theorem dL_law_431 : decode cL_law 431 = .ok (.iconst 0, 1) := by decide +kernel
theorem dL_law_432 : decode cL_law 432 = .ok (.ireturn, 1) := by decide +kernel
theorem dL_law_433 : decode cL_law 433 = .ok (.aload_n 1, 1) := by decide +kernel
theorem dL_law_434 : decode cL_law 434 = .ok (.aload_n 0, 1) := by decide +kernel
theorem dL_law_435 : decode cL_law 435 = .ok (.iload 4, 2) := by decide +kernel
theorem dL_law_437 : decode cL_law 437 = .ok (.iconst 1, 1) := by decide +kernel
theorem dL_law_438 : decode cL_law 438 = .ok (.iadd, 1) := by decide +kernel
theorem dL_law_439 : decode cL_law 439 = .ok (.iaload, 1) := by decide +kernel
theorem dL_law_440 : decode cL_law 440 = .ok (.aload_n 3, 1) := by decide +kernel
theorem dL_law_441 : decode cL_law 441 = .ok (.invokestatic 130, 3) := by decide +kernel
theorem dL_law_444 : decode cL_law 444 = .ok (.istore 5, 2) := by decide +kernel
theorem dL_law_446 : decode cL_law 446 = .ok (.aload_n 2, 1) := by decide +kernel
theorem dL_law_447 : decode cL_law 447 = .ok (.aload_n 0, 1) := by decide +kernel
theorem dL_law_448 : decode cL_law 448 = .ok (.iload 4, 2) := by decide +kernel
theorem dL_law_450 : decode cL_law 450 = .ok (.iconst 1, 1) := by decide +kernel
theorem dL_law_451 : decode cL_law 451 = .ok (.iadd, 1) := by decide +kernel
theorem dL_law_452 : decode cL_law 452 = .ok (.iaload, 1) := by decide +kernel
theorem dL_law_453 : decode cL_law 453 = .ok (.invokevirtual 132, 3) := by decide +kernel
theorem dL_law_456 : decode cL_law 456 = .ok (.istore 6, 2) := by decide +kernel
theorem dL_law_458 : decode cL_law 458 = .ok (.aload_n 2, 1) := by decide +kernel
theorem dL_law_459 : decode cL_law 459 = .ok (.invokevirtual 103, 3) := by decide +kernel
theorem dL_law_462 : decode cL_law 462 = .ok (.iload 5, 2) := by decide +kernel
theorem dL_law_464 : decode cL_law 464 = .ok (.if_icmp .eq 5, 3) := by decide +kernel
theorem dL_law_467 : decode cL_law 467 = .ok (.iconst 0, 1) := by decide +kernel
theorem dL_law_468 : decode cL_law 468 = .ok (.ireturn, 1) := by decide +kernel
theorem dL_law_469 : decode cL_law 469 = .ok (.iload 5, 2) := by decide +kernel
theorem dL_law_471 : decode cL_law 471 = .ok (.ifCond .ne 15, 3) := by decide +kernel
theorem dL_law_474 : decode cL_law 474 = .ok (.aload_n 3, 1) := by decide +kernel
theorem dL_law_475 : decode cL_law 475 = .ok (.iconst 0, 1) := by decide +kernel
theorem dL_law_476 : decode cL_law 476 = .ok (.laload, 1) := by decide +kernel
theorem dL_law_477 : decode cL_law 477 = .ok (.iload 6, 2) := by decide +kernel
theorem dL_law_479 : decode cL_law 479 = .ok (.i2l, 1) := by decide +kernel
theorem dL_law_480 : decode cL_law 480 = .ok (.lcmp, 1) := by decide +kernel
theorem dL_law_481 : decode cL_law 481 = .ok (.ifCond .eq 5, 3) := by decide +kernel
theorem dL_law_484 : decode cL_law 484 = .ok (.iconst 0, 1) := by decide +kernel
theorem dL_law_485 : decode cL_law 485 = .ok (.ireturn, 1) := by decide +kernel
theorem dL_law_486 : decode cL_law 486 = .ok (.goto 1436, 3) := by decide +kernel
theorem dL_law_489 : decode cL_law 489 = .ok (.aload_n 1, 1) := by decide +kernel
theorem dL_law_490 : decode cL_law 490 = .ok (.aload_n 0, 1) := by decide +kernel
theorem dL_law_491 : decode cL_law 491 = .ok (.iload 4, 2) := by decide +kernel
theorem dL_law_493 : decode cL_law 493 = .ok (.iconst 1, 1) := by decide +kernel
theorem dL_law_494 : decode cL_law 494 = .ok (.iadd, 1) := by decide +kernel
theorem dL_law_495 : decode cL_law 495 = .ok (.iaload, 1) := by decide +kernel
theorem dL_law_496 : decode cL_law 496 = .ok (.aload_n 0, 1) := by decide +kernel
theorem dL_law_497 : decode cL_law 497 = .ok (.iload 4, 2) := by decide +kernel
theorem dL_law_499 : decode cL_law 499 = .ok (.iconst 2, 1) := by decide +kernel
theorem dL_law_500 : decode cL_law 500 = .ok (.iadd, 1) := by decide +kernel
theorem dL_law_501 : decode cL_law 501 = .ok (.iaload, 1) := by decide +kernel
theorem dL_law_502 : decode cL_law 502 = .ok (.aload_n 3, 1) := by decide +kernel
theorem dL_law_503 : decode cL_law 503 = .ok (.invokestatic 133, 3) := by decide +kernel
theorem dL_law_506 : decode cL_law 506 = .ok (.istore 5, 2) := by decide +kernel
theorem dL_law_508 : decode cL_law 508 = .ok (.aload_n 2, 1) := by decide +kernel
theorem dL_law_509 : decode cL_law 509 = .ok (.aload_n 0, 1) := by decide +kernel
theorem dL_law_510 : decode cL_law 510 = .ok (.iload 4, 2) := by decide +kernel
theorem dL_law_512 : decode cL_law 512 = .ok (.iconst 1, 1) := by decide +kernel
theorem dL_law_513 : decode cL_law 513 = .ok (.iadd, 1) := by decide +kernel
theorem dL_law_514 : decode cL_law 514 = .ok (.iaload, 1) := by decide +kernel
theorem dL_law_515 : decode cL_law 515 = .ok (.aload_n 0, 1) := by decide +kernel
theorem dL_law_516 : decode cL_law 516 = .ok (.iload 4, 2) := by decide +kernel
theorem dL_law_518 : decode cL_law 518 = .ok (.iconst 2, 1) := by decide +kernel
theorem dL_law_519 : decode cL_law 519 = .ok (.iadd, 1) := by decide +kernel
theorem dL_law_520 : decode cL_law 520 = .ok (.iaload, 1) := by decide +kernel
theorem dL_law_521 : decode cL_law 521 = .ok (.invokevirtual 136, 3) := by decide +kernel
theorem dL_law_524 : decode cL_law 524 = .ok (.istore 6, 2) := by decide +kernel
theorem dL_law_526 : decode cL_law 526 = .ok (.aload_n 2, 1) := by decide +kernel
theorem dL_law_527 : decode cL_law 527 = .ok (.invokevirtual 103, 3) := by decide +kernel
theorem dL_law_530 : decode cL_law 530 = .ok (.iload 5, 2) := by decide +kernel
theorem dL_law_532 : decode cL_law 532 = .ok (.if_icmp .eq 5, 3) := by decide +kernel
theorem dL_law_535 : decode cL_law 535 = .ok (.iconst 0, 1) := by decide +kernel
theorem dL_law_536 : decode cL_law 536 = .ok (.ireturn, 1) := by decide +kernel
theorem dL_law_537 : decode cL_law 537 = .ok (.iload 5, 2) := by decide +kernel
theorem dL_law_539 : decode cL_law 539 = .ok (.ifCond .ne 15, 3) := by decide +kernel
theorem dL_law_542 : decode cL_law 542 = .ok (.aload_n 3, 1) := by decide +kernel
theorem dL_law_543 : decode cL_law 543 = .ok (.iconst 0, 1) := by decide +kernel
theorem dL_law_544 : decode cL_law 544 = .ok (.laload, 1) := by decide +kernel
theorem dL_law_545 : decode cL_law 545 = .ok (.iload 6, 2) := by decide +kernel
theorem dL_law_547 : decode cL_law 547 = .ok (.i2l, 1) := by decide +kernel
theorem dL_law_548 : decode cL_law 548 = .ok (.lcmp, 1) := by decide +kernel
theorem dL_law_549 : decode cL_law 549 = .ok (.ifCond .eq 5, 3) := by decide +kernel
theorem dL_law_552 : decode cL_law 552 = .ok (.iconst 0, 1) := by decide +kernel
theorem dL_law_553 : decode cL_law 553 = .ok (.ireturn, 1) := by decide +kernel
theorem dL_law_554 : decode cL_law 554 = .ok (.goto 1368, 3) := by decide +kernel
theorem dL_law_557 : decode cL_law 557 = .ok (.aload_n 1, 1) := by decide +kernel
theorem dL_law_558 : decode cL_law 558 = .ok (.invokevirtual 137, 3) := by decide +kernel
theorem dL_law_561 : decode cL_law 561 = .ok (.aload_n 2, 1) := by decide +kernel
theorem dL_law_562 : decode cL_law 562 = .ok (.invokevirtual 140, 3) := by decide +kernel
theorem dL_law_565 : decode cL_law 565 = .ok (.if_icmp .eq 1357, 3) := by decide +kernel
theorem dL_law_568 : decode cL_law 568 = .ok (.iconst 0, 1) := by decide +kernel
theorem dL_law_569 : decode cL_law 569 = .ok (.ireturn, 1) := by decide +kernel
theorem dL_law_570 : decode cL_law 570 = .ok (.aload_n 1, 1) := by decide +kernel
theorem dL_law_571 : decode cL_law 571 = .ok (.aload_n 0, 1) := by decide +kernel
theorem dL_law_572 : decode cL_law 572 = .ok (.iload 4, 2) := by decide +kernel
theorem dL_law_574 : decode cL_law 574 = .ok (.iconst 1, 1) := by decide +kernel
theorem dL_law_575 : decode cL_law 575 = .ok (.iadd, 1) := by decide +kernel
theorem dL_law_576 : decode cL_law 576 = .ok (.iaload, 1) := by decide +kernel
theorem dL_law_577 : decode cL_law 577 = .ok (.aload_n 3, 1) := by decide +kernel
theorem dL_law_578 : decode cL_law 578 = .ok (.invokestatic 141, 3) := by decide +kernel
theorem dL_law_581 : decode cL_law 581 = .ok (.istore 5, 2) := by decide +kernel
theorem dL_law_583 : decode cL_law 583 = .ok (.aload_n 2, 1) := by decide +kernel
theorem dL_law_584 : decode cL_law 584 = .ok (.aload_n 0, 1) := by decide +kernel
theorem dL_law_585 : decode cL_law 585 = .ok (.iload 4, 2) := by decide +kernel
theorem dL_law_587 : decode cL_law 587 = .ok (.iconst 1, 1) := by decide +kernel
theorem dL_law_588 : decode cL_law 588 = .ok (.iadd, 1) := by decide +kernel
theorem dL_law_589 : decode cL_law 589 = .ok (.iaload, 1) := by decide +kernel
theorem dL_law_590 : decode cL_law 590 = .ok (.invokevirtual 143, 3) := by decide +kernel
theorem dL_law_593 : decode cL_law 593 = .ok (.istore 6, 2) := by decide +kernel
theorem dL_law_595 : decode cL_law 595 = .ok (.aload_n 2, 1) := by decide +kernel
theorem dL_law_596 : decode cL_law 596 = .ok (.invokevirtual 103, 3) := by decide +kernel
theorem dL_law_599 : decode cL_law 599 = .ok (.iload 5, 2) := by decide +kernel
theorem dL_law_601 : decode cL_law 601 = .ok (.if_icmp .eq 5, 3) := by decide +kernel
theorem dL_law_604 : decode cL_law 604 = .ok (.iconst 0, 1) := by decide +kernel
theorem dL_law_605 : decode cL_law 605 = .ok (.ireturn, 1) := by decide +kernel
theorem dL_law_606 : decode cL_law 606 = .ok (.iload 5, 2) := by decide +kernel
theorem dL_law_608 : decode cL_law 608 = .ok (.ifCond .ne 15, 3) := by decide +kernel
theorem dL_law_611 : decode cL_law 611 = .ok (.aload_n 3, 1) := by decide +kernel
theorem dL_law_612 : decode cL_law 612 = .ok (.iconst 0, 1) := by decide +kernel
theorem dL_law_613 : decode cL_law 613 = .ok (.laload, 1) := by decide +kernel
theorem dL_law_614 : decode cL_law 614 = .ok (.iload 6, 2) := by decide +kernel
theorem dL_law_616 : decode cL_law 616 = .ok (.i2l, 1) := by decide +kernel
theorem dL_law_617 : decode cL_law 617 = .ok (.lcmp, 1) := by decide +kernel
theorem dL_law_618 : decode cL_law 618 = .ok (.ifCond .eq 5, 3) := by decide +kernel
theorem dL_law_621 : decode cL_law 621 = .ok (.iconst 0, 1) := by decide +kernel
theorem dL_law_622 : decode cL_law 622 = .ok (.ireturn, 1) := by decide +kernel
theorem dL_law_623 : decode cL_law 623 = .ok (.goto 1299, 3) := by decide +kernel
theorem dL_law_626 : decode cL_law 626 = .ok (.aload_n 1, 1) := by decide +kernel
theorem dL_law_627 : decode cL_law 627 = .ok (.aload_n 0, 1) := by decide +kernel
theorem dL_law_628 : decode cL_law 628 = .ok (.iload 4, 2) := by decide +kernel
theorem dL_law_630 : decode cL_law 630 = .ok (.iconst 1, 1) := by decide +kernel
theorem dL_law_631 : decode cL_law 631 = .ok (.iadd, 1) := by decide +kernel
theorem dL_law_632 : decode cL_law 632 = .ok (.iaload, 1) := by decide +kernel
theorem dL_law_633 : decode cL_law 633 = .ok (.aload_n 3, 1) := by decide +kernel
theorem dL_law_634 : decode cL_law 634 = .ok (.invokestatic 144, 3) := by decide +kernel
theorem dL_law_637 : decode cL_law 637 = .ok (.istore 5, 2) := by decide +kernel
theorem dL_law_639 : decode cL_law 639 = .ok (.aload_n 2, 1) := by decide +kernel
theorem dL_law_640 : decode cL_law 640 = .ok (.aload_n 0, 1) := by decide +kernel
theorem dL_law_641 : decode cL_law 641 = .ok (.iload 4, 2) := by decide +kernel
theorem dL_law_643 : decode cL_law 643 = .ok (.iconst 1, 1) := by decide +kernel
theorem dL_law_644 : decode cL_law 644 = .ok (.iadd, 1) := by decide +kernel
theorem dL_law_645 : decode cL_law 645 = .ok (.iaload, 1) := by decide +kernel
theorem dL_law_646 : decode cL_law 646 = .ok (.invokevirtual 146, 3) := by decide +kernel
theorem dL_law_649 : decode cL_law 649 = .ok (.istore 6, 2) := by decide +kernel
theorem dL_law_651 : decode cL_law 651 = .ok (.aload_n 2, 1) := by decide +kernel
theorem dL_law_652 : decode cL_law 652 = .ok (.invokevirtual 103, 3) := by decide +kernel
theorem dL_law_655 : decode cL_law 655 = .ok (.iload 5, 2) := by decide +kernel
theorem dL_law_657 : decode cL_law 657 = .ok (.if_icmp .eq 5, 3) := by decide +kernel
theorem dL_law_660 : decode cL_law 660 = .ok (.iconst 0, 1) := by decide +kernel
theorem dL_law_661 : decode cL_law 661 = .ok (.ireturn, 1) := by decide +kernel
theorem dL_law_662 : decode cL_law 662 = .ok (.iload 5, 2) := by decide +kernel
theorem dL_law_664 : decode cL_law 664 = .ok (.ifCond .ne 15, 3) := by decide +kernel
theorem dL_law_667 : decode cL_law 667 = .ok (.aload_n 3, 1) := by decide +kernel
theorem dL_law_668 : decode cL_law 668 = .ok (.iconst 0, 1) := by decide +kernel
theorem dL_law_669 : decode cL_law 669 = .ok (.laload, 1) := by decide +kernel
theorem dL_law_670 : decode cL_law 670 = .ok (.iload 6, 2) := by decide +kernel
theorem dL_law_672 : decode cL_law 672 = .ok (.i2l, 1) := by decide +kernel
theorem dL_law_673 : decode cL_law 673 = .ok (.lcmp, 1) := by decide +kernel
theorem dL_law_674 : decode cL_law 674 = .ok (.ifCond .eq 5, 3) := by decide +kernel
theorem dL_law_677 : decode cL_law 677 = .ok (.iconst 0, 1) := by decide +kernel
theorem dL_law_678 : decode cL_law 678 = .ok (.ireturn, 1) := by decide +kernel
theorem dL_law_679 : decode cL_law 679 = .ok (.goto 1243, 3) := by decide +kernel
theorem dL_law_682 : decode cL_law 682 = .ok (.aload_n 1, 1) := by decide +kernel
theorem dL_law_683 : decode cL_law 683 = .ok (.aload_n 0, 1) := by decide +kernel
theorem dL_law_684 : decode cL_law 684 = .ok (.iload 4, 2) := by decide +kernel
theorem dL_law_686 : decode cL_law 686 = .ok (.iconst 1, 1) := by decide +kernel
theorem dL_law_687 : decode cL_law 687 = .ok (.iadd, 1) := by decide +kernel
theorem dL_law_688 : decode cL_law 688 = .ok (.iaload, 1) := by decide +kernel
theorem dL_law_689 : decode cL_law 689 = .ok (.aload_n 3, 1) := by decide +kernel
theorem dL_law_690 : decode cL_law 690 = .ok (.invokestatic 147, 3) := by decide +kernel
theorem dL_law_693 : decode cL_law 693 = .ok (.istore 5, 2) := by decide +kernel
theorem dL_law_695 : decode cL_law 695 = .ok (.aload_n 2, 1) := by decide +kernel
theorem dL_law_696 : decode cL_law 696 = .ok (.aload_n 0, 1) := by decide +kernel
theorem dL_law_697 : decode cL_law 697 = .ok (.iload 4, 2) := by decide +kernel
theorem dL_law_699 : decode cL_law 699 = .ok (.iconst 1, 1) := by decide +kernel
theorem dL_law_700 : decode cL_law 700 = .ok (.iadd, 1) := by decide +kernel
theorem dL_law_701 : decode cL_law 701 = .ok (.iaload, 1) := by decide +kernel
theorem dL_law_702 : decode cL_law 702 = .ok (.invokevirtual 149, 3) := by decide +kernel
theorem dL_law_705 : decode cL_law 705 = .ok (.istore 6, 2) := by decide +kernel
theorem dL_law_707 : decode cL_law 707 = .ok (.aload_n 2, 1) := by decide +kernel
theorem dL_law_708 : decode cL_law 708 = .ok (.invokevirtual 103, 3) := by decide +kernel
theorem dL_law_711 : decode cL_law 711 = .ok (.iload 5, 2) := by decide +kernel
theorem dL_law_713 : decode cL_law 713 = .ok (.if_icmp .eq 5, 3) := by decide +kernel
theorem dL_law_716 : decode cL_law 716 = .ok (.iconst 0, 1) := by decide +kernel
theorem dL_law_717 : decode cL_law 717 = .ok (.ireturn, 1) := by decide +kernel
theorem dL_law_718 : decode cL_law 718 = .ok (.iload 5, 2) := by decide +kernel
theorem dL_law_720 : decode cL_law 720 = .ok (.ifCond .ne 15, 3) := by decide +kernel
theorem dL_law_723 : decode cL_law 723 = .ok (.aload_n 3, 1) := by decide +kernel
theorem dL_law_724 : decode cL_law 724 = .ok (.iconst 0, 1) := by decide +kernel
theorem dL_law_725 : decode cL_law 725 = .ok (.laload, 1) := by decide +kernel
theorem dL_law_726 : decode cL_law 726 = .ok (.iload 6, 2) := by decide +kernel
theorem dL_law_728 : decode cL_law 728 = .ok (.i2l, 1) := by decide +kernel
theorem dL_law_729 : decode cL_law 729 = .ok (.lcmp, 1) := by decide +kernel
theorem dL_law_730 : decode cL_law 730 = .ok (.ifCond .eq 5, 3) := by decide +kernel
theorem dL_law_733 : decode cL_law 733 = .ok (.iconst 0, 1) := by decide +kernel
theorem dL_law_734 : decode cL_law 734 = .ok (.ireturn, 1) := by decide +kernel
theorem dL_law_735 : decode cL_law 735 = .ok (.goto 1187, 3) := by decide +kernel
theorem dL_law_738 : decode cL_law 738 = .ok (.aload_n 1, 1) := by decide +kernel
theorem dL_law_739 : decode cL_law 739 = .ok (.aload_n 0, 1) := by decide +kernel
theorem dL_law_740 : decode cL_law 740 = .ok (.iload 4, 2) := by decide +kernel
theorem dL_law_742 : decode cL_law 742 = .ok (.iconst 1, 1) := by decide +kernel
theorem dL_law_743 : decode cL_law 743 = .ok (.iadd, 1) := by decide +kernel
theorem dL_law_744 : decode cL_law 744 = .ok (.iaload, 1) := by decide +kernel
theorem dL_law_745 : decode cL_law 745 = .ok (.aload_n 3, 1) := by decide +kernel
theorem dL_law_746 : decode cL_law 746 = .ok (.invokestatic 150, 3) := by decide +kernel
theorem dL_law_749 : decode cL_law 749 = .ok (.istore 5, 2) := by decide +kernel
theorem dL_law_751 : decode cL_law 751 = .ok (.aload_n 2, 1) := by decide +kernel
theorem dL_law_752 : decode cL_law 752 = .ok (.aload_n 0, 1) := by decide +kernel
theorem dL_law_753 : decode cL_law 753 = .ok (.iload 4, 2) := by decide +kernel
theorem dL_law_755 : decode cL_law 755 = .ok (.iconst 1, 1) := by decide +kernel
theorem dL_law_756 : decode cL_law 756 = .ok (.iadd, 1) := by decide +kernel
theorem dL_law_757 : decode cL_law 757 = .ok (.iaload, 1) := by decide +kernel
theorem dL_law_758 : decode cL_law 758 = .ok (.invokevirtual 152, 3) := by decide +kernel
theorem dL_law_761 : decode cL_law 761 = .ok (.istore 6, 2) := by decide +kernel
theorem dL_law_763 : decode cL_law 763 = .ok (.aload_n 2, 1) := by decide +kernel
theorem dL_law_764 : decode cL_law 764 = .ok (.invokevirtual 103, 3) := by decide +kernel
theorem dL_law_767 : decode cL_law 767 = .ok (.iload 5, 2) := by decide +kernel
theorem dL_law_769 : decode cL_law 769 = .ok (.if_icmp .eq 5, 3) := by decide +kernel
theorem dL_law_772 : decode cL_law 772 = .ok (.iconst 0, 1) := by decide +kernel
theorem dL_law_773 : decode cL_law 773 = .ok (.ireturn, 1) := by decide +kernel
theorem dL_law_774 : decode cL_law 774 = .ok (.iload 5, 2) := by decide +kernel
theorem dL_law_776 : decode cL_law 776 = .ok (.ifCond .ne 15, 3) := by decide +kernel
theorem dL_law_779 : decode cL_law 779 = .ok (.aload_n 3, 1) := by decide +kernel
theorem dL_law_780 : decode cL_law 780 = .ok (.iconst 0, 1) := by decide +kernel
theorem dL_law_781 : decode cL_law 781 = .ok (.laload, 1) := by decide +kernel
theorem dL_law_782 : decode cL_law 782 = .ok (.iload 6, 2) := by decide +kernel
theorem dL_law_784 : decode cL_law 784 = .ok (.i2l, 1) := by decide +kernel
theorem dL_law_785 : decode cL_law 785 = .ok (.lcmp, 1) := by decide +kernel
theorem dL_law_786 : decode cL_law 786 = .ok (.ifCond .eq 5, 3) := by decide +kernel
theorem dL_law_789 : decode cL_law 789 = .ok (.iconst 0, 1) := by decide +kernel
theorem dL_law_790 : decode cL_law 790 = .ok (.ireturn, 1) := by decide +kernel
theorem dL_law_791 : decode cL_law 791 = .ok (.goto 1131, 3) := by decide +kernel
theorem dL_law_794 : decode cL_law 794 = .ok (.aload_n 1, 1) := by decide +kernel
theorem dL_law_795 : decode cL_law 795 = .ok (.aload_n 0, 1) := by decide +kernel
theorem dL_law_796 : decode cL_law 796 = .ok (.iload 4, 2) := by decide +kernel
theorem dL_law_798 : decode cL_law 798 = .ok (.iconst 1, 1) := by decide +kernel
theorem dL_law_799 : decode cL_law 799 = .ok (.iadd, 1) := by decide +kernel
theorem dL_law_800 : decode cL_law 800 = .ok (.iaload, 1) := by decide +kernel
theorem dL_law_801 : decode cL_law 801 = .ok (.aload_n 3, 1) := by decide +kernel
theorem dL_law_802 : decode cL_law 802 = .ok (.invokestatic 153, 3) := by decide +kernel
theorem dL_law_805 : decode cL_law 805 = .ok (.istore 5, 2) := by decide +kernel
theorem dL_law_807 : decode cL_law 807 = .ok (.aload_n 2, 1) := by decide +kernel
theorem dL_law_808 : decode cL_law 808 = .ok (.aload_n 0, 1) := by decide +kernel
theorem dL_law_809 : decode cL_law 809 = .ok (.iload 4, 2) := by decide +kernel
theorem dL_law_811 : decode cL_law 811 = .ok (.iconst 1, 1) := by decide +kernel
theorem dL_law_812 : decode cL_law 812 = .ok (.iadd, 1) := by decide +kernel
theorem dL_law_813 : decode cL_law 813 = .ok (.iaload, 1) := by decide +kernel
theorem dL_law_814 : decode cL_law 814 = .ok (.invokevirtual 155, 3) := by decide +kernel
theorem dL_law_817 : decode cL_law 817 = .ok (.istore 6, 2) := by decide +kernel
theorem dL_law_819 : decode cL_law 819 = .ok (.aload_n 2, 1) := by decide +kernel
theorem dL_law_820 : decode cL_law 820 = .ok (.invokevirtual 103, 3) := by decide +kernel
theorem dL_law_823 : decode cL_law 823 = .ok (.iload 5, 2) := by decide +kernel
theorem dL_law_825 : decode cL_law 825 = .ok (.if_icmp .eq 5, 3) := by decide +kernel
theorem dL_law_828 : decode cL_law 828 = .ok (.iconst 0, 1) := by decide +kernel
theorem dL_law_829 : decode cL_law 829 = .ok (.ireturn, 1) := by decide +kernel
theorem dL_law_830 : decode cL_law 830 = .ok (.iload 5, 2) := by decide +kernel
theorem dL_law_832 : decode cL_law 832 = .ok (.ifCond .ne 15, 3) := by decide +kernel
theorem dL_law_835 : decode cL_law 835 = .ok (.aload_n 3, 1) := by decide +kernel
theorem dL_law_836 : decode cL_law 836 = .ok (.iconst 0, 1) := by decide +kernel
theorem dL_law_837 : decode cL_law 837 = .ok (.laload, 1) := by decide +kernel
theorem dL_law_838 : decode cL_law 838 = .ok (.iload 6, 2) := by decide +kernel
theorem dL_law_840 : decode cL_law 840 = .ok (.i2l, 1) := by decide +kernel
theorem dL_law_841 : decode cL_law 841 = .ok (.lcmp, 1) := by decide +kernel
theorem dL_law_842 : decode cL_law 842 = .ok (.ifCond .eq 5, 3) := by decide +kernel
theorem dL_law_845 : decode cL_law 845 = .ok (.iconst 0, 1) := by decide +kernel
theorem dL_law_846 : decode cL_law 846 = .ok (.ireturn, 1) := by decide +kernel
theorem dL_law_847 : decode cL_law 847 = .ok (.goto 1075, 3) := by decide +kernel
theorem dL_law_850 : decode cL_law 850 = .ok (.aload_n 1, 1) := by decide +kernel
theorem dL_law_851 : decode cL_law 851 = .ok (.aload_n 0, 1) := by decide +kernel
theorem dL_law_852 : decode cL_law 852 = .ok (.iload 4, 2) := by decide +kernel
theorem dL_law_854 : decode cL_law 854 = .ok (.iconst 1, 1) := by decide +kernel
theorem dL_law_855 : decode cL_law 855 = .ok (.iadd, 1) := by decide +kernel
theorem dL_law_856 : decode cL_law 856 = .ok (.iaload, 1) := by decide +kernel
theorem dL_law_857 : decode cL_law 857 = .ok (.aload_n 0, 1) := by decide +kernel
theorem dL_law_858 : decode cL_law 858 = .ok (.iload 4, 2) := by decide +kernel
theorem dL_law_860 : decode cL_law 860 = .ok (.iconst 2, 1) := by decide +kernel
theorem dL_law_861 : decode cL_law 861 = .ok (.iadd, 1) := by decide +kernel
theorem dL_law_862 : decode cL_law 862 = .ok (.iaload, 1) := by decide +kernel
theorem dL_law_863 : decode cL_law 863 = .ok (.aload_n 3, 1) := by decide +kernel
theorem dL_law_864 : decode cL_law 864 = .ok (.invokestatic 156, 3) := by decide +kernel
theorem dL_law_867 : decode cL_law 867 = .ok (.istore 5, 2) := by decide +kernel
theorem dL_law_869 : decode cL_law 869 = .ok (.aload_n 2, 1) := by decide +kernel
theorem dL_law_870 : decode cL_law 870 = .ok (.aload_n 0, 1) := by decide +kernel
theorem dL_law_871 : decode cL_law 871 = .ok (.iload 4, 2) := by decide +kernel
theorem dL_law_873 : decode cL_law 873 = .ok (.iconst 1, 1) := by decide +kernel
theorem dL_law_874 : decode cL_law 874 = .ok (.iadd, 1) := by decide +kernel
theorem dL_law_875 : decode cL_law 875 = .ok (.iaload, 1) := by decide +kernel
theorem dL_law_876 : decode cL_law 876 = .ok (.aload_n 0, 1) := by decide +kernel
theorem dL_law_877 : decode cL_law 877 = .ok (.iload 4, 2) := by decide +kernel
theorem dL_law_879 : decode cL_law 879 = .ok (.iconst 2, 1) := by decide +kernel
theorem dL_law_880 : decode cL_law 880 = .ok (.iadd, 1) := by decide +kernel
theorem dL_law_881 : decode cL_law 881 = .ok (.iaload, 1) := by decide +kernel
theorem dL_law_882 : decode cL_law 882 = .ok (.invokevirtual 158, 3) := by decide +kernel
theorem dL_law_885 : decode cL_law 885 = .ok (.istore 6, 2) := by decide +kernel
theorem dL_law_887 : decode cL_law 887 = .ok (.aload_n 2, 1) := by decide +kernel
theorem dL_law_888 : decode cL_law 888 = .ok (.invokevirtual 103, 3) := by decide +kernel
theorem dL_law_891 : decode cL_law 891 = .ok (.iload 5, 2) := by decide +kernel
theorem dL_law_893 : decode cL_law 893 = .ok (.if_icmp .eq 5, 3) := by decide +kernel
theorem dL_law_896 : decode cL_law 896 = .ok (.iconst 0, 1) := by decide +kernel
theorem dL_law_897 : decode cL_law 897 = .ok (.ireturn, 1) := by decide +kernel
theorem dL_law_898 : decode cL_law 898 = .ok (.iload 5, 2) := by decide +kernel
theorem dL_law_900 : decode cL_law 900 = .ok (.ifCond .ne 15, 3) := by decide +kernel
theorem dL_law_903 : decode cL_law 903 = .ok (.aload_n 3, 1) := by decide +kernel
theorem dL_law_904 : decode cL_law 904 = .ok (.iconst 0, 1) := by decide +kernel
theorem dL_law_905 : decode cL_law 905 = .ok (.laload, 1) := by decide +kernel
theorem dL_law_906 : decode cL_law 906 = .ok (.iload 6, 2) := by decide +kernel
theorem dL_law_908 : decode cL_law 908 = .ok (.i2l, 1) := by decide +kernel
theorem dL_law_909 : decode cL_law 909 = .ok (.lcmp, 1) := by decide +kernel
theorem dL_law_910 : decode cL_law 910 = .ok (.ifCond .eq 5, 3) := by decide +kernel
theorem dL_law_913 : decode cL_law 913 = .ok (.iconst 0, 1) := by decide +kernel
theorem dL_law_914 : decode cL_law 914 = .ok (.ireturn, 1) := by decide +kernel
theorem dL_law_915 : decode cL_law 915 = .ok (.goto 1007, 3) := by decide +kernel
theorem dL_law_918 : decode cL_law 918 = .ok (.aload_n 1, 1) := by decide +kernel
theorem dL_law_919 : decode cL_law 919 = .ok (.aload_n 0, 1) := by decide +kernel
theorem dL_law_920 : decode cL_law 920 = .ok (.iload 4, 2) := by decide +kernel
theorem dL_law_922 : decode cL_law 922 = .ok (.iconst 1, 1) := by decide +kernel
theorem dL_law_923 : decode cL_law 923 = .ok (.iadd, 1) := by decide +kernel
theorem dL_law_924 : decode cL_law 924 = .ok (.iaload, 1) := by decide +kernel
theorem dL_law_925 : decode cL_law 925 = .ok (.aload_n 3, 1) := by decide +kernel
theorem dL_law_926 : decode cL_law 926 = .ok (.invokestatic 159, 3) := by decide +kernel
theorem dL_law_929 : decode cL_law 929 = .ok (.istore 5, 2) := by decide +kernel
theorem dL_law_931 : decode cL_law 931 = .ok (.aload_n 2, 1) := by decide +kernel
theorem dL_law_932 : decode cL_law 932 = .ok (.aload_n 0, 1) := by decide +kernel
theorem dL_law_933 : decode cL_law 933 = .ok (.iload 4, 2) := by decide +kernel
theorem dL_law_935 : decode cL_law 935 = .ok (.iconst 1, 1) := by decide +kernel
theorem dL_law_936 : decode cL_law 936 = .ok (.iadd, 1) := by decide +kernel
theorem dL_law_937 : decode cL_law 937 = .ok (.iaload, 1) := by decide +kernel
theorem dL_law_938 : decode cL_law 938 = .ok (.invokevirtual 161, 3) := by decide +kernel
theorem dL_law_941 : decode cL_law 941 = .ok (.istore 6, 2) := by decide +kernel
theorem dL_law_943 : decode cL_law 943 = .ok (.aload_n 2, 1) := by decide +kernel
theorem dL_law_944 : decode cL_law 944 = .ok (.invokevirtual 103, 3) := by decide +kernel
theorem dL_law_947 : decode cL_law 947 = .ok (.iload 5, 2) := by decide +kernel
theorem dL_law_949 : decode cL_law 949 = .ok (.if_icmp .eq 5, 3) := by decide +kernel
theorem dL_law_952 : decode cL_law 952 = .ok (.iconst 0, 1) := by decide +kernel
theorem dL_law_953 : decode cL_law 953 = .ok (.ireturn, 1) := by decide +kernel
theorem dL_law_954 : decode cL_law 954 = .ok (.iload 5, 2) := by decide +kernel
theorem dL_law_956 : decode cL_law 956 = .ok (.ifCond .ne 15, 3) := by decide +kernel
theorem dL_law_959 : decode cL_law 959 = .ok (.aload_n 3, 1) := by decide +kernel
theorem dL_law_960 : decode cL_law 960 = .ok (.iconst 0, 1) := by decide +kernel
theorem dL_law_961 : decode cL_law 961 = .ok (.laload, 1) := by decide +kernel
theorem dL_law_962 : decode cL_law 962 = .ok (.iload 6, 2) := by decide +kernel
theorem dL_law_964 : decode cL_law 964 = .ok (.i2l, 1) := by decide +kernel
theorem dL_law_965 : decode cL_law 965 = .ok (.lcmp, 1) := by decide +kernel
theorem dL_law_966 : decode cL_law 966 = .ok (.ifCond .eq 5, 3) := by decide +kernel
theorem dL_law_969 : decode cL_law 969 = .ok (.iconst 0, 1) := by decide +kernel
theorem dL_law_970 : decode cL_law 970 = .ok (.ireturn, 1) := by decide +kernel
theorem dL_law_971 : decode cL_law 971 = .ok (.goto 951, 3) := by decide +kernel
theorem dL_law_974 : decode cL_law 974 = .ok (.aload_n 1, 1) := by decide +kernel
theorem dL_law_975 : decode cL_law 975 = .ok (.aload_n 0, 1) := by decide +kernel
theorem dL_law_976 : decode cL_law 976 = .ok (.iload 4, 2) := by decide +kernel
theorem dL_law_978 : decode cL_law 978 = .ok (.iconst 1, 1) := by decide +kernel
theorem dL_law_979 : decode cL_law 979 = .ok (.iadd, 1) := by decide +kernel
theorem dL_law_980 : decode cL_law 980 = .ok (.iaload, 1) := by decide +kernel
theorem dL_law_981 : decode cL_law 981 = .ok (.aload_n 0, 1) := by decide +kernel
theorem dL_law_982 : decode cL_law 982 = .ok (.iload 4, 2) := by decide +kernel
theorem dL_law_984 : decode cL_law 984 = .ok (.iconst 2, 1) := by decide +kernel
theorem dL_law_985 : decode cL_law 985 = .ok (.iadd, 1) := by decide +kernel
theorem dL_law_986 : decode cL_law 986 = .ok (.iaload, 1) := by decide +kernel
theorem dL_law_987 : decode cL_law 987 = .ok (.aload_n 3, 1) := by decide +kernel
theorem dL_law_988 : decode cL_law 988 = .ok (.invokestatic 162, 3) := by decide +kernel
theorem dL_law_991 : decode cL_law 991 = .ok (.istore 5, 2) := by decide +kernel
theorem dL_law_993 : decode cL_law 993 = .ok (.aload_n 2, 1) := by decide +kernel
theorem dL_law_994 : decode cL_law 994 = .ok (.aload_n 0, 1) := by decide +kernel
theorem dL_law_995 : decode cL_law 995 = .ok (.iload 4, 2) := by decide +kernel
theorem dL_law_997 : decode cL_law 997 = .ok (.iconst 1, 1) := by decide +kernel
theorem dL_law_998 : decode cL_law 998 = .ok (.iadd, 1) := by decide +kernel
theorem dL_law_999 : decode cL_law 999 = .ok (.iaload, 1) := by decide +kernel
theorem dL_law_1000 : decode cL_law 1000 = .ok (.aload_n 0, 1) := by decide +kernel
theorem dL_law_1001 : decode cL_law 1001 = .ok (.iload 4, 2) := by decide +kernel
theorem dL_law_1003 : decode cL_law 1003 = .ok (.iconst 2, 1) := by decide +kernel
theorem dL_law_1004 : decode cL_law 1004 = .ok (.iadd, 1) := by decide +kernel
theorem dL_law_1005 : decode cL_law 1005 = .ok (.iaload, 1) := by decide +kernel
theorem dL_law_1006 : decode cL_law 1006 = .ok (.invokevirtual 164, 3) := by decide +kernel
theorem dL_law_1009 : decode cL_law 1009 = .ok (.istore 6, 2) := by decide +kernel
theorem dL_law_1011 : decode cL_law 1011 = .ok (.aload_n 2, 1) := by decide +kernel
theorem dL_law_1012 : decode cL_law 1012 = .ok (.invokevirtual 103, 3) := by decide +kernel
theorem dL_law_1015 : decode cL_law 1015 = .ok (.iload 5, 2) := by decide +kernel
theorem dL_law_1017 : decode cL_law 1017 = .ok (.if_icmp .eq 5, 3) := by decide +kernel
theorem dL_law_1020 : decode cL_law 1020 = .ok (.iconst 0, 1) := by decide +kernel
theorem dL_law_1021 : decode cL_law 1021 = .ok (.ireturn, 1) := by decide +kernel
theorem dL_law_1022 : decode cL_law 1022 = .ok (.iload 5, 2) := by decide +kernel
theorem dL_law_1024 : decode cL_law 1024 = .ok (.ifCond .ne 15, 3) := by decide +kernel
theorem dL_law_1027 : decode cL_law 1027 = .ok (.aload_n 3, 1) := by decide +kernel
theorem dL_law_1028 : decode cL_law 1028 = .ok (.iconst 0, 1) := by decide +kernel
theorem dL_law_1029 : decode cL_law 1029 = .ok (.laload, 1) := by decide +kernel
theorem dL_law_1030 : decode cL_law 1030 = .ok (.iload 6, 2) := by decide +kernel
theorem dL_law_1032 : decode cL_law 1032 = .ok (.i2l, 1) := by decide +kernel
theorem dL_law_1033 : decode cL_law 1033 = .ok (.lcmp, 1) := by decide +kernel
theorem dL_law_1034 : decode cL_law 1034 = .ok (.ifCond .eq 5, 3) := by decide +kernel
theorem dL_law_1037 : decode cL_law 1037 = .ok (.iconst 0, 1) := by decide +kernel
theorem dL_law_1038 : decode cL_law 1038 = .ok (.ireturn, 1) := by decide +kernel
theorem dL_law_1039 : decode cL_law 1039 = .ok (.goto 883, 3) := by decide +kernel
theorem dL_law_1042 : decode cL_law 1042 = .ok (.aload_n 1, 1) := by decide +kernel
theorem dL_law_1043 : decode cL_law 1043 = .ok (.aload_n 0, 1) := by decide +kernel
theorem dL_law_1044 : decode cL_law 1044 = .ok (.iload 4, 2) := by decide +kernel
theorem dL_law_1046 : decode cL_law 1046 = .ok (.iconst 1, 1) := by decide +kernel
theorem dL_law_1047 : decode cL_law 1047 = .ok (.iadd, 1) := by decide +kernel
theorem dL_law_1048 : decode cL_law 1048 = .ok (.iaload, 1) := by decide +kernel
theorem dL_law_1049 : decode cL_law 1049 = .ok (.aload_n 3, 1) := by decide +kernel
theorem dL_law_1050 : decode cL_law 1050 = .ok (.invokestatic 165, 3) := by decide +kernel
theorem dL_law_1053 : decode cL_law 1053 = .ok (.istore 5, 2) := by decide +kernel
theorem dL_law_1055 : decode cL_law 1055 = .ok (.aload_n 2, 1) := by decide +kernel
theorem dL_law_1056 : decode cL_law 1056 = .ok (.aload_n 0, 1) := by decide +kernel
theorem dL_law_1057 : decode cL_law 1057 = .ok (.iload 4, 2) := by decide +kernel
theorem dL_law_1059 : decode cL_law 1059 = .ok (.iconst 1, 1) := by decide +kernel
theorem dL_law_1060 : decode cL_law 1060 = .ok (.iadd, 1) := by decide +kernel
theorem dL_law_1061 : decode cL_law 1061 = .ok (.iaload, 1) := by decide +kernel
theorem dL_law_1062 : decode cL_law 1062 = .ok (.invokevirtual 167, 3) := by decide +kernel
theorem dL_law_1065 : decode cL_law 1065 = .ok (.istore 6, 2) := by decide +kernel
theorem dL_law_1067 : decode cL_law 1067 = .ok (.aload_n 2, 1) := by decide +kernel
theorem dL_law_1068 : decode cL_law 1068 = .ok (.invokevirtual 103, 3) := by decide +kernel
theorem dL_law_1071 : decode cL_law 1071 = .ok (.iload 5, 2) := by decide +kernel
theorem dL_law_1073 : decode cL_law 1073 = .ok (.if_icmp .eq 5, 3) := by decide +kernel
theorem dL_law_1076 : decode cL_law 1076 = .ok (.iconst 0, 1) := by decide +kernel
theorem dL_law_1077 : decode cL_law 1077 = .ok (.ireturn, 1) := by decide +kernel
theorem dL_law_1078 : decode cL_law 1078 = .ok (.iload 5, 2) := by decide +kernel
theorem dL_law_1080 : decode cL_law 1080 = .ok (.ifCond .ne 15, 3) := by decide +kernel
theorem dL_law_1083 : decode cL_law 1083 = .ok (.aload_n 3, 1) := by decide +kernel
theorem dL_law_1084 : decode cL_law 1084 = .ok (.iconst 0, 1) := by decide +kernel
theorem dL_law_1085 : decode cL_law 1085 = .ok (.laload, 1) := by decide +kernel
theorem dL_law_1086 : decode cL_law 1086 = .ok (.iload 6, 2) := by decide +kernel
theorem dL_law_1088 : decode cL_law 1088 = .ok (.i2l, 1) := by decide +kernel
theorem dL_law_1089 : decode cL_law 1089 = .ok (.lcmp, 1) := by decide +kernel
theorem dL_law_1090 : decode cL_law 1090 = .ok (.ifCond .eq 5, 3) := by decide +kernel
theorem dL_law_1093 : decode cL_law 1093 = .ok (.iconst 0, 1) := by decide +kernel
theorem dL_law_1094 : decode cL_law 1094 = .ok (.ireturn, 1) := by decide +kernel
theorem dL_law_1095 : decode cL_law 1095 = .ok (.goto 827, 3) := by decide +kernel
theorem dL_law_1098 : decode cL_law 1098 = .ok (.aload_n 1, 1) := by decide +kernel
theorem dL_law_1099 : decode cL_law 1099 = .ok (.aload_n 0, 1) := by decide +kernel
theorem dL_law_1100 : decode cL_law 1100 = .ok (.iload 4, 2) := by decide +kernel
theorem dL_law_1102 : decode cL_law 1102 = .ok (.iconst 1, 1) := by decide +kernel
theorem dL_law_1103 : decode cL_law 1103 = .ok (.iadd, 1) := by decide +kernel
theorem dL_law_1104 : decode cL_law 1104 = .ok (.iaload, 1) := by decide +kernel
theorem dL_law_1105 : decode cL_law 1105 = .ok (.aload_n 0, 1) := by decide +kernel
theorem dL_law_1106 : decode cL_law 1106 = .ok (.iload 4, 2) := by decide +kernel
theorem dL_law_1108 : decode cL_law 1108 = .ok (.iconst 2, 1) := by decide +kernel
theorem dL_law_1109 : decode cL_law 1109 = .ok (.iadd, 1) := by decide +kernel
theorem dL_law_1110 : decode cL_law 1110 = .ok (.iaload, 1) := by decide +kernel
theorem dL_law_1111 : decode cL_law 1111 = .ok (.aload_n 3, 1) := by decide +kernel
theorem dL_law_1112 : decode cL_law 1112 = .ok (.invokestatic 168, 3) := by decide +kernel
theorem dL_law_1115 : decode cL_law 1115 = .ok (.istore 5, 2) := by decide +kernel
theorem dL_law_1117 : decode cL_law 1117 = .ok (.aload_n 2, 1) := by decide +kernel
theorem dL_law_1118 : decode cL_law 1118 = .ok (.aload_n 0, 1) := by decide +kernel
theorem dL_law_1119 : decode cL_law 1119 = .ok (.iload 4, 2) := by decide +kernel
theorem dL_law_1121 : decode cL_law 1121 = .ok (.iconst 1, 1) := by decide +kernel
theorem dL_law_1122 : decode cL_law 1122 = .ok (.iadd, 1) := by decide +kernel
theorem dL_law_1123 : decode cL_law 1123 = .ok (.iaload, 1) := by decide +kernel
theorem dL_law_1124 : decode cL_law 1124 = .ok (.aload_n 0, 1) := by decide +kernel
theorem dL_law_1125 : decode cL_law 1125 = .ok (.iload 4, 2) := by decide +kernel
theorem dL_law_1127 : decode cL_law 1127 = .ok (.iconst 2, 1) := by decide +kernel
theorem dL_law_1128 : decode cL_law 1128 = .ok (.iadd, 1) := by decide +kernel
theorem dL_law_1129 : decode cL_law 1129 = .ok (.iaload, 1) := by decide +kernel
theorem dL_law_1130 : decode cL_law 1130 = .ok (.invokevirtual 170, 3) := by decide +kernel
theorem dL_law_1133 : decode cL_law 1133 = .ok (.istore 6, 2) := by decide +kernel
theorem dL_law_1135 : decode cL_law 1135 = .ok (.aload_n 2, 1) := by decide +kernel
theorem dL_law_1136 : decode cL_law 1136 = .ok (.invokevirtual 103, 3) := by decide +kernel
theorem dL_law_1139 : decode cL_law 1139 = .ok (.iload 5, 2) := by decide +kernel
theorem dL_law_1141 : decode cL_law 1141 = .ok (.if_icmp .eq 5, 3) := by decide +kernel
theorem dL_law_1144 : decode cL_law 1144 = .ok (.iconst 0, 1) := by decide +kernel
theorem dL_law_1145 : decode cL_law 1145 = .ok (.ireturn, 1) := by decide +kernel
theorem dL_law_1146 : decode cL_law 1146 = .ok (.iload 5, 2) := by decide +kernel
theorem dL_law_1148 : decode cL_law 1148 = .ok (.ifCond .ne 15, 3) := by decide +kernel
theorem dL_law_1151 : decode cL_law 1151 = .ok (.aload_n 3, 1) := by decide +kernel
theorem dL_law_1152 : decode cL_law 1152 = .ok (.iconst 0, 1) := by decide +kernel
theorem dL_law_1153 : decode cL_law 1153 = .ok (.laload, 1) := by decide +kernel
theorem dL_law_1154 : decode cL_law 1154 = .ok (.iload 6, 2) := by decide +kernel
theorem dL_law_1156 : decode cL_law 1156 = .ok (.i2l, 1) := by decide +kernel
theorem dL_law_1157 : decode cL_law 1157 = .ok (.lcmp, 1) := by decide +kernel
theorem dL_law_1158 : decode cL_law 1158 = .ok (.ifCond .eq 5, 3) := by decide +kernel
theorem dL_law_1161 : decode cL_law 1161 = .ok (.iconst 0, 1) := by decide +kernel
theorem dL_law_1162 : decode cL_law 1162 = .ok (.ireturn, 1) := by decide +kernel
theorem dL_law_1163 : decode cL_law 1163 = .ok (.goto 759, 3) := by decide +kernel
theorem dL_law_1166 : decode cL_law 1166 = .ok (.aload_n 1, 1) := by decide +kernel
theorem dL_law_1167 : decode cL_law 1167 = .ok (.aload_n 0, 1) := by decide +kernel
theorem dL_law_1168 : decode cL_law 1168 = .ok (.iload 4, 2) := by decide +kernel
theorem dL_law_1170 : decode cL_law 1170 = .ok (.iconst 1, 1) := by decide +kernel
theorem dL_law_1171 : decode cL_law 1171 = .ok (.iadd, 1) := by decide +kernel
theorem dL_law_1172 : decode cL_law 1172 = .ok (.iaload, 1) := by decide +kernel
theorem dL_law_1173 : decode cL_law 1173 = .ok (.aload_n 3, 1) := by decide +kernel
theorem dL_law_1174 : decode cL_law 1174 = .ok (.invokestatic 171, 3) := by decide +kernel
theorem dL_law_1177 : decode cL_law 1177 = .ok (.istore 5, 2) := by decide +kernel
theorem dL_law_1179 : decode cL_law 1179 = .ok (.aload_n 2, 1) := by decide +kernel
theorem dL_law_1180 : decode cL_law 1180 = .ok (.aload_n 0, 1) := by decide +kernel
theorem dL_law_1181 : decode cL_law 1181 = .ok (.iload 4, 2) := by decide +kernel
theorem dL_law_1183 : decode cL_law 1183 = .ok (.iconst 1, 1) := by decide +kernel
theorem dL_law_1184 : decode cL_law 1184 = .ok (.iadd, 1) := by decide +kernel
theorem dL_law_1185 : decode cL_law 1185 = .ok (.iaload, 1) := by decide +kernel
theorem dL_law_1186 : decode cL_law 1186 = .ok (.invokevirtual 173, 3) := by decide +kernel
theorem dL_law_1189 : decode cL_law 1189 = .ok (.istore 6, 2) := by decide +kernel
theorem dL_law_1191 : decode cL_law 1191 = .ok (.aload_n 2, 1) := by decide +kernel
theorem dL_law_1192 : decode cL_law 1192 = .ok (.invokevirtual 103, 3) := by decide +kernel
theorem dL_law_1195 : decode cL_law 1195 = .ok (.iload 5, 2) := by decide +kernel
theorem dL_law_1197 : decode cL_law 1197 = .ok (.if_icmp .eq 5, 3) := by decide +kernel
theorem dL_law_1200 : decode cL_law 1200 = .ok (.iconst 0, 1) := by decide +kernel
theorem dL_law_1201 : decode cL_law 1201 = .ok (.ireturn, 1) := by decide +kernel
theorem dL_law_1202 : decode cL_law 1202 = .ok (.iload 5, 2) := by decide +kernel
theorem dL_law_1204 : decode cL_law 1204 = .ok (.ifCond .ne 15, 3) := by decide +kernel
theorem dL_law_1207 : decode cL_law 1207 = .ok (.aload_n 3, 1) := by decide +kernel
theorem dL_law_1208 : decode cL_law 1208 = .ok (.iconst 0, 1) := by decide +kernel
theorem dL_law_1209 : decode cL_law 1209 = .ok (.laload, 1) := by decide +kernel
theorem dL_law_1210 : decode cL_law 1210 = .ok (.iload 6, 2) := by decide +kernel
theorem dL_law_1212 : decode cL_law 1212 = .ok (.i2l, 1) := by decide +kernel
theorem dL_law_1213 : decode cL_law 1213 = .ok (.lcmp, 1) := by decide +kernel
theorem dL_law_1214 : decode cL_law 1214 = .ok (.ifCond .eq 5, 3) := by decide +kernel
theorem dL_law_1217 : decode cL_law 1217 = .ok (.iconst 0, 1) := by decide +kernel
theorem dL_law_1218 : decode cL_law 1218 = .ok (.ireturn, 1) := by decide +kernel
theorem dL_law_1219 : decode cL_law 1219 = .ok (.goto 703, 3) := by decide +kernel
theorem dL_law_1222 : decode cL_law 1222 = .ok (.aload_n 1, 1) := by decide +kernel
theorem dL_law_1223 : decode cL_law 1223 = .ok (.aload_n 0, 1) := by decide +kernel
theorem dL_law_1224 : decode cL_law 1224 = .ok (.iload 4, 2) := by decide +kernel
theorem dL_law_1226 : decode cL_law 1226 = .ok (.iconst 1, 1) := by decide +kernel
theorem dL_law_1227 : decode cL_law 1227 = .ok (.iadd, 1) := by decide +kernel
theorem dL_law_1228 : decode cL_law 1228 = .ok (.iaload, 1) := by decide +kernel
theorem dL_law_1229 : decode cL_law 1229 = .ok (.aload_n 3, 1) := by decide +kernel
theorem dL_law_1230 : decode cL_law 1230 = .ok (.invokestatic 174, 3) := by decide +kernel
theorem dL_law_1233 : decode cL_law 1233 = .ok (.istore 5, 2) := by decide +kernel
theorem dL_law_1235 : decode cL_law 1235 = .ok (.aload_n 2, 1) := by decide +kernel
theorem dL_law_1236 : decode cL_law 1236 = .ok (.aload_n 0, 1) := by decide +kernel
theorem dL_law_1237 : decode cL_law 1237 = .ok (.iload 4, 2) := by decide +kernel
theorem dL_law_1239 : decode cL_law 1239 = .ok (.iconst 1, 1) := by decide +kernel
theorem dL_law_1240 : decode cL_law 1240 = .ok (.iadd, 1) := by decide +kernel
theorem dL_law_1241 : decode cL_law 1241 = .ok (.iaload, 1) := by decide +kernel
theorem dL_law_1242 : decode cL_law 1242 = .ok (.invokevirtual 176, 3) := by decide +kernel
theorem dL_law_1245 : decode cL_law 1245 = .ok (.istore 6, 2) := by decide +kernel
theorem dL_law_1247 : decode cL_law 1247 = .ok (.aload_n 2, 1) := by decide +kernel
theorem dL_law_1248 : decode cL_law 1248 = .ok (.invokevirtual 103, 3) := by decide +kernel
theorem dL_law_1251 : decode cL_law 1251 = .ok (.iload 5, 2) := by decide +kernel
theorem dL_law_1253 : decode cL_law 1253 = .ok (.if_icmp .eq 5, 3) := by decide +kernel
theorem dL_law_1256 : decode cL_law 1256 = .ok (.iconst 0, 1) := by decide +kernel
theorem dL_law_1257 : decode cL_law 1257 = .ok (.ireturn, 1) := by decide +kernel
theorem dL_law_1258 : decode cL_law 1258 = .ok (.iload 5, 2) := by decide +kernel
theorem dL_law_1260 : decode cL_law 1260 = .ok (.ifCond .ne 15, 3) := by decide +kernel
theorem dL_law_1263 : decode cL_law 1263 = .ok (.aload_n 3, 1) := by decide +kernel
theorem dL_law_1264 : decode cL_law 1264 = .ok (.iconst 0, 1) := by decide +kernel
theorem dL_law_1265 : decode cL_law 1265 = .ok (.laload, 1) := by decide +kernel
theorem dL_law_1266 : decode cL_law 1266 = .ok (.iload 6, 2) := by decide +kernel
theorem dL_law_1268 : decode cL_law 1268 = .ok (.i2l, 1) := by decide +kernel
theorem dL_law_1269 : decode cL_law 1269 = .ok (.lcmp, 1) := by decide +kernel
theorem dL_law_1270 : decode cL_law 1270 = .ok (.ifCond .eq 5, 3) := by decide +kernel
theorem dL_law_1273 : decode cL_law 1273 = .ok (.iconst 0, 1) := by decide +kernel
theorem dL_law_1274 : decode cL_law 1274 = .ok (.ireturn, 1) := by decide +kernel
theorem dL_law_1275 : decode cL_law 1275 = .ok (.goto 647, 3) := by decide +kernel
theorem dL_law_1278 : decode cL_law 1278 = .ok (.aload_n 1, 1) := by decide +kernel
theorem dL_law_1279 : decode cL_law 1279 = .ok (.invokevirtual 177, 3) := by decide +kernel
theorem dL_law_1282 : decode cL_law 1282 = .ok (.aload_n 2, 1) := by decide +kernel
theorem dL_law_1283 : decode cL_law 1283 = .ok (.invokevirtual 180, 3) := by decide +kernel
theorem dL_law_1286 : decode cL_law 1286 = .ok (.if_icmp .eq 636, 3) := by decide +kernel
theorem dL_law_1289 : decode cL_law 1289 = .ok (.iconst 0, 1) := by decide +kernel
theorem dL_law_1290 : decode cL_law 1290 = .ok (.ireturn, 1) := by decide +kernel
theorem dL_law_1291 : decode cL_law 1291 = .ok (.aload_n 1, 1) := by decide +kernel
theorem dL_law_1292 : decode cL_law 1292 = .ok (.invokevirtual 181, 3) := by decide +kernel
theorem dL_law_1295 : decode cL_law 1295 = .ok (.aload_n 2, 1) := by decide +kernel
theorem dL_law_1296 : decode cL_law 1296 = .ok (.invokevirtual 185, 3) := by decide +kernel
theorem dL_law_1299 : decode cL_law 1299 = .ok (.if_icmp .eq 623, 3) := by decide +kernel
theorem dL_law_1302 : decode cL_law 1302 = .ok (.iconst 0, 1) := by decide +kernel
theorem dL_law_1303 : decode cL_law 1303 = .ok (.ireturn, 1) := by decide +kernel
theorem dL_law_1304 : decode cL_law 1304 = .ok (.aload_n 1, 1) := by decide +kernel
theorem dL_law_1305 : decode cL_law 1305 = .ok (.invokevirtual 186, 3) := by decide +kernel
theorem dL_law_1308 : decode cL_law 1308 = .ok (.aload_n 2, 1) := by decide +kernel
theorem dL_law_1309 : decode cL_law 1309 = .ok (.invokevirtual 189, 3) := by decide +kernel
theorem dL_law_1312 : decode cL_law 1312 = .ok (.if_icmp .eq 610, 3) := by decide +kernel
theorem dL_law_1315 : decode cL_law 1315 = .ok (.iconst 0, 1) := by decide +kernel
theorem dL_law_1316 : decode cL_law 1316 = .ok (.ireturn, 1) := by decide +kernel
theorem dL_law_1317 : decode cL_law 1317 = .ok (.aload_n 1, 1) := by decide +kernel
theorem dL_law_1318 : decode cL_law 1318 = .ok (.aload_n 0, 1) := by decide +kernel
theorem dL_law_1319 : decode cL_law 1319 = .ok (.iload 4, 2) := by decide +kernel
theorem dL_law_1321 : decode cL_law 1321 = .ok (.iconst 1, 1) := by decide +kernel
theorem dL_law_1322 : decode cL_law 1322 = .ok (.iadd, 1) := by decide +kernel
theorem dL_law_1323 : decode cL_law 1323 = .ok (.iaload, 1) := by decide +kernel
theorem dL_law_1324 : decode cL_law 1324 = .ok (.aload_n 0, 1) := by decide +kernel
theorem dL_law_1325 : decode cL_law 1325 = .ok (.iload 4, 2) := by decide +kernel
theorem dL_law_1327 : decode cL_law 1327 = .ok (.iconst 2, 1) := by decide +kernel
theorem dL_law_1328 : decode cL_law 1328 = .ok (.iadd, 1) := by decide +kernel
theorem dL_law_1329 : decode cL_law 1329 = .ok (.iaload, 1) := by decide +kernel
theorem dL_law_1330 : decode cL_law 1330 = .ok (.ifCond .eq 7, 3) := by decide +kernel
theorem dL_law_1333 : decode cL_law 1333 = .ok (.iconst 1, 1) := by decide +kernel
theorem dL_law_1334 : decode cL_law 1334 = .ok (.goto 4, 3) := by decide +kernel
theorem dL_law_1337 : decode cL_law 1337 = .ok (.iconst 0, 1) := by decide +kernel
theorem dL_law_1338 : decode cL_law 1338 = .ok (.aload_n 3, 1) := by decide +kernel
theorem dL_law_1339 : decode cL_law 1339 = .ok (.invokestatic 190, 3) := by decide +kernel
theorem dL_law_1342 : decode cL_law 1342 = .ok (.istore 5, 2) := by decide +kernel
theorem dL_law_1344 : decode cL_law 1344 = .ok (.aload_n 2, 1) := by decide +kernel
theorem dL_law_1345 : decode cL_law 1345 = .ok (.aload_n 0, 1) := by decide +kernel
theorem dL_law_1346 : decode cL_law 1346 = .ok (.iload 4, 2) := by decide +kernel
theorem dL_law_1348 : decode cL_law 1348 = .ok (.iconst 1, 1) := by decide +kernel
theorem dL_law_1349 : decode cL_law 1349 = .ok (.iadd, 1) := by decide +kernel
theorem dL_law_1350 : decode cL_law 1350 = .ok (.iaload, 1) := by decide +kernel
theorem dL_law_1351 : decode cL_law 1351 = .ok (.aload_n 0, 1) := by decide +kernel
theorem dL_law_1352 : decode cL_law 1352 = .ok (.iload 4, 2) := by decide +kernel
theorem dL_law_1354 : decode cL_law 1354 = .ok (.iconst 2, 1) := by decide +kernel
theorem dL_law_1355 : decode cL_law 1355 = .ok (.iadd, 1) := by decide +kernel
theorem dL_law_1356 : decode cL_law 1356 = .ok (.iaload, 1) := by decide +kernel
theorem dL_law_1357 : decode cL_law 1357 = .ok (.ifCond .eq 7, 3) := by decide +kernel
theorem dL_law_1360 : decode cL_law 1360 = .ok (.iconst 1, 1) := by decide +kernel
theorem dL_law_1361 : decode cL_law 1361 = .ok (.goto 4, 3) := by decide +kernel
theorem dL_law_1364 : decode cL_law 1364 = .ok (.iconst 0, 1) := by decide +kernel
theorem dL_law_1365 : decode cL_law 1365 = .ok (.invokevirtual 193, 3) := by decide +kernel
theorem dL_law_1368 : decode cL_law 1368 = .ok (.istore 6, 2) := by decide +kernel
theorem dL_law_1370 : decode cL_law 1370 = .ok (.aload_n 2, 1) := by decide +kernel
theorem dL_law_1371 : decode cL_law 1371 = .ok (.invokevirtual 103, 3) := by decide +kernel
theorem dL_law_1374 : decode cL_law 1374 = .ok (.iload 5, 2) := by decide +kernel
theorem dL_law_1376 : decode cL_law 1376 = .ok (.if_icmp .eq 5, 3) := by decide +kernel
theorem dL_law_1379 : decode cL_law 1379 = .ok (.iconst 0, 1) := by decide +kernel
theorem dL_law_1380 : decode cL_law 1380 = .ok (.ireturn, 1) := by decide +kernel
theorem dL_law_1381 : decode cL_law 1381 = .ok (.iload 5, 2) := by decide +kernel
theorem dL_law_1383 : decode cL_law 1383 = .ok (.ifCond .ne 15, 3) := by decide +kernel
theorem dL_law_1386 : decode cL_law 1386 = .ok (.aload_n 3, 1) := by decide +kernel
theorem dL_law_1387 : decode cL_law 1387 = .ok (.iconst 0, 1) := by decide +kernel
theorem dL_law_1388 : decode cL_law 1388 = .ok (.laload, 1) := by decide +kernel
theorem dL_law_1389 : decode cL_law 1389 = .ok (.iload 6, 2) := by decide +kernel
theorem dL_law_1391 : decode cL_law 1391 = .ok (.i2l, 1) := by decide +kernel
theorem dL_law_1392 : decode cL_law 1392 = .ok (.lcmp, 1) := by decide +kernel
theorem dL_law_1393 : decode cL_law 1393 = .ok (.ifCond .eq 5, 3) := by decide +kernel
theorem dL_law_1396 : decode cL_law 1396 = .ok (.iconst 0, 1) := by decide +kernel
theorem dL_law_1397 : decode cL_law 1397 = .ok (.ireturn, 1) := by decide +kernel
theorem dL_law_1398 : decode cL_law 1398 = .ok (.goto 524, 3) := by decide +kernel
theorem dL_law_1401 : decode cL_law 1401 = .ok (.aload_n 1, 1) := by decide +kernel
theorem dL_law_1402 : decode cL_law 1402 = .ok (.aload_n 0, 1) := by decide +kernel
theorem dL_law_1403 : decode cL_law 1403 = .ok (.iload 4, 2) := by decide +kernel
theorem dL_law_1405 : decode cL_law 1405 = .ok (.iconst 1, 1) := by decide +kernel
theorem dL_law_1406 : decode cL_law 1406 = .ok (.iadd, 1) := by decide +kernel
theorem dL_law_1407 : decode cL_law 1407 = .ok (.iaload, 1) := by decide +kernel
theorem dL_law_1408 : decode cL_law 1408 = .ok (.aload_n 0, 1) := by decide +kernel
theorem dL_law_1409 : decode cL_law 1409 = .ok (.iload 4, 2) := by decide +kernel
theorem dL_law_1411 : decode cL_law 1411 = .ok (.iconst 2, 1) := by decide +kernel
theorem dL_law_1412 : decode cL_law 1412 = .ok (.iadd, 1) := by decide +kernel
theorem dL_law_1413 : decode cL_law 1413 = .ok (.iaload, 1) := by decide +kernel
theorem dL_law_1414 : decode cL_law 1414 = .ok (.ifCond .eq 7, 3) := by decide +kernel
theorem dL_law_1417 : decode cL_law 1417 = .ok (.iconst 1, 1) := by decide +kernel
theorem dL_law_1418 : decode cL_law 1418 = .ok (.goto 4, 3) := by decide +kernel
theorem dL_law_1421 : decode cL_law 1421 = .ok (.iconst 0, 1) := by decide +kernel
theorem dL_law_1422 : decode cL_law 1422 = .ok (.aload_n 3, 1) := by decide +kernel
theorem dL_law_1423 : decode cL_law 1423 = .ok (.invokestatic 194, 3) := by decide +kernel
theorem dL_law_1426 : decode cL_law 1426 = .ok (.istore 5, 2) := by decide +kernel
theorem dL_law_1428 : decode cL_law 1428 = .ok (.aload_n 2, 1) := by decide +kernel
theorem dL_law_1429 : decode cL_law 1429 = .ok (.aload_n 0, 1) := by decide +kernel
theorem dL_law_1430 : decode cL_law 1430 = .ok (.iload 4, 2) := by decide +kernel
theorem dL_law_1432 : decode cL_law 1432 = .ok (.iconst 1, 1) := by decide +kernel
theorem dL_law_1433 : decode cL_law 1433 = .ok (.iadd, 1) := by decide +kernel
theorem dL_law_1434 : decode cL_law 1434 = .ok (.iaload, 1) := by decide +kernel
theorem dL_law_1435 : decode cL_law 1435 = .ok (.aload_n 0, 1) := by decide +kernel
theorem dL_law_1436 : decode cL_law 1436 = .ok (.iload 4, 2) := by decide +kernel
theorem dL_law_1438 : decode cL_law 1438 = .ok (.iconst 2, 1) := by decide +kernel
theorem dL_law_1439 : decode cL_law 1439 = .ok (.iadd, 1) := by decide +kernel
theorem dL_law_1440 : decode cL_law 1440 = .ok (.iaload, 1) := by decide +kernel
theorem dL_law_1441 : decode cL_law 1441 = .ok (.ifCond .eq 7, 3) := by decide +kernel
theorem dL_law_1444 : decode cL_law 1444 = .ok (.iconst 1, 1) := by decide +kernel
theorem dL_law_1445 : decode cL_law 1445 = .ok (.goto 4, 3) := by decide +kernel
theorem dL_law_1448 : decode cL_law 1448 = .ok (.iconst 0, 1) := by decide +kernel
theorem dL_law_1449 : decode cL_law 1449 = .ok (.invokevirtual 196, 3) := by decide +kernel
theorem dL_law_1452 : decode cL_law 1452 = .ok (.istore 6, 2) := by decide +kernel
theorem dL_law_1454 : decode cL_law 1454 = .ok (.aload_n 2, 1) := by decide +kernel
theorem dL_law_1455 : decode cL_law 1455 = .ok (.invokevirtual 103, 3) := by decide +kernel
theorem dL_law_1458 : decode cL_law 1458 = .ok (.iload 5, 2) := by decide +kernel
theorem dL_law_1460 : decode cL_law 1460 = .ok (.if_icmp .eq 5, 3) := by decide +kernel
theorem dL_law_1463 : decode cL_law 1463 = .ok (.iconst 0, 1) := by decide +kernel
theorem dL_law_1464 : decode cL_law 1464 = .ok (.ireturn, 1) := by decide +kernel
theorem dL_law_1465 : decode cL_law 1465 = .ok (.iload 5, 2) := by decide +kernel
theorem dL_law_1467 : decode cL_law 1467 = .ok (.ifCond .ne 15, 3) := by decide +kernel
theorem dL_law_1470 : decode cL_law 1470 = .ok (.aload_n 3, 1) := by decide +kernel
theorem dL_law_1471 : decode cL_law 1471 = .ok (.iconst 0, 1) := by decide +kernel
theorem dL_law_1472 : decode cL_law 1472 = .ok (.laload, 1) := by decide +kernel
theorem dL_law_1473 : decode cL_law 1473 = .ok (.iload 6, 2) := by decide +kernel
theorem dL_law_1475 : decode cL_law 1475 = .ok (.i2l, 1) := by decide +kernel
theorem dL_law_1476 : decode cL_law 1476 = .ok (.lcmp, 1) := by decide +kernel
theorem dL_law_1477 : decode cL_law 1477 = .ok (.ifCond .eq 5, 3) := by decide +kernel
theorem dL_law_1480 : decode cL_law 1480 = .ok (.iconst 0, 1) := by decide +kernel
theorem dL_law_1481 : decode cL_law 1481 = .ok (.ireturn, 1) := by decide +kernel
theorem dL_law_1482 : decode cL_law 1482 = .ok (.goto 440, 3) := by decide +kernel
theorem dL_law_1485 : decode cL_law 1485 = .ok (.aload_n 1, 1) := by decide +kernel
theorem dL_law_1486 : decode cL_law 1486 = .ok (.invokevirtual 197, 3) := by decide +kernel
theorem dL_law_1489 : decode cL_law 1489 = .ok (.aload_n 2, 1) := by decide +kernel
theorem dL_law_1490 : decode cL_law 1490 = .ok (.invokevirtual 200, 3) := by decide +kernel
theorem dL_law_1493 : decode cL_law 1493 = .ok (.if_icmp .eq 429, 3) := by decide +kernel
theorem dL_law_1496 : decode cL_law 1496 = .ok (.iconst 0, 1) := by decide +kernel
theorem dL_law_1497 : decode cL_law 1497 = .ok (.ireturn, 1) := by decide +kernel
theorem dL_law_1498 : decode cL_law 1498 = .ok (.aload_n 1, 1) := by decide +kernel
theorem dL_law_1499 : decode cL_law 1499 = .ok (.aload_n 0, 1) := by decide +kernel
theorem dL_law_1500 : decode cL_law 1500 = .ok (.iload 4, 2) := by decide +kernel
theorem dL_law_1502 : decode cL_law 1502 = .ok (.iconst 1, 1) := by decide +kernel
theorem dL_law_1503 : decode cL_law 1503 = .ok (.iadd, 1) := by decide +kernel
theorem dL_law_1504 : decode cL_law 1504 = .ok (.iaload, 1) := by decide +kernel
theorem dL_law_1505 : decode cL_law 1505 = .ok (.aload_n 3, 1) := by decide +kernel
theorem dL_law_1506 : decode cL_law 1506 = .ok (.invokestatic 201, 3) := by decide +kernel
theorem dL_law_1509 : decode cL_law 1509 = .ok (.istore 5, 2) := by decide +kernel
theorem dL_law_1511 : decode cL_law 1511 = .ok (.aload_n 2, 1) := by decide +kernel
theorem dL_law_1512 : decode cL_law 1512 = .ok (.aload_n 0, 1) := by decide +kernel
theorem dL_law_1513 : decode cL_law 1513 = .ok (.iload 4, 2) := by decide +kernel
theorem dL_law_1515 : decode cL_law 1515 = .ok (.iconst 1, 1) := by decide +kernel
theorem dL_law_1516 : decode cL_law 1516 = .ok (.iadd, 1) := by decide +kernel
theorem dL_law_1517 : decode cL_law 1517 = .ok (.iaload, 1) := by decide +kernel
theorem dL_law_1518 : decode cL_law 1518 = .ok (.invokevirtual 203, 3) := by decide +kernel
theorem dL_law_1521 : decode cL_law 1521 = .ok (.istore 6, 2) := by decide +kernel
theorem dL_law_1523 : decode cL_law 1523 = .ok (.aload_n 2, 1) := by decide +kernel
theorem dL_law_1524 : decode cL_law 1524 = .ok (.invokevirtual 103, 3) := by decide +kernel
theorem dL_law_1527 : decode cL_law 1527 = .ok (.iload 5, 2) := by decide +kernel
theorem dL_law_1529 : decode cL_law 1529 = .ok (.if_icmp .eq 5, 3) := by decide +kernel
theorem dL_law_1532 : decode cL_law 1532 = .ok (.iconst 0, 1) := by decide +kernel
theorem dL_law_1533 : decode cL_law 1533 = .ok (.ireturn, 1) := by decide +kernel
theorem dL_law_1534 : decode cL_law 1534 = .ok (.iload 5, 2) := by decide +kernel
theorem dL_law_1536 : decode cL_law 1536 = .ok (.ifCond .ne 15, 3) := by decide +kernel
theorem dL_law_1539 : decode cL_law 1539 = .ok (.aload_n 3, 1) := by decide +kernel
theorem dL_law_1540 : decode cL_law 1540 = .ok (.iconst 0, 1) := by decide +kernel
theorem dL_law_1541 : decode cL_law 1541 = .ok (.laload, 1) := by decide +kernel
theorem dL_law_1542 : decode cL_law 1542 = .ok (.iload 6, 2) := by decide +kernel
theorem dL_law_1544 : decode cL_law 1544 = .ok (.i2l, 1) := by decide +kernel
theorem dL_law_1545 : decode cL_law 1545 = .ok (.lcmp, 1) := by decide +kernel
theorem dL_law_1546 : decode cL_law 1546 = .ok (.ifCond .eq 5, 3) := by decide +kernel
theorem dL_law_1549 : decode cL_law 1549 = .ok (.iconst 0, 1) := by decide +kernel
theorem dL_law_1550 : decode cL_law 1550 = .ok (.ireturn, 1) := by decide +kernel
theorem dL_law_1551 : decode cL_law 1551 = .ok (.goto 371, 3) := by decide +kernel
theorem dL_law_1554 : decode cL_law 1554 = .ok (.aload_n 1, 1) := by decide +kernel
theorem dL_law_1555 : decode cL_law 1555 = .ok (.invokevirtual 204, 3) := by decide +kernel
theorem dL_law_1558 : decode cL_law 1558 = .ok (.aload_n 2, 1) := by decide +kernel
theorem dL_law_1559 : decode cL_law 1559 = .ok (.invokevirtual 207, 3) := by decide +kernel
theorem dL_law_1562 : decode cL_law 1562 = .ok (.if_icmp .eq 360, 3) := by decide +kernel
theorem dL_law_1565 : decode cL_law 1565 = .ok (.iconst 0, 1) := by decide +kernel
theorem dL_law_1566 : decode cL_law 1566 = .ok (.ireturn, 1) := by decide +kernel
theorem dL_law_1567 : decode cL_law 1567 = .ok (.aload_n 1, 1) := by decide +kernel
theorem dL_law_1568 : decode cL_law 1568 = .ok (.aload_n 0, 1) := by decide +kernel
theorem dL_law_1569 : decode cL_law 1569 = .ok (.iload 4, 2) := by decide +kernel
theorem dL_law_1571 : decode cL_law 1571 = .ok (.iconst 1, 1) := by decide +kernel
theorem dL_law_1572 : decode cL_law 1572 = .ok (.iadd, 1) := by decide +kernel
theorem dL_law_1573 : decode cL_law 1573 = .ok (.iaload, 1) := by decide +kernel
theorem dL_law_1574 : decode cL_law 1574 = .ok (.aload_n 3, 1) := by decide +kernel
theorem dL_law_1575 : decode cL_law 1575 = .ok (.invokestatic 208, 3) := by decide +kernel
theorem dL_law_1578 : decode cL_law 1578 = .ok (.istore 5, 2) := by decide +kernel
theorem dL_law_1580 : decode cL_law 1580 = .ok (.aload_n 2, 1) := by decide +kernel
theorem dL_law_1581 : decode cL_law 1581 = .ok (.aload_n 0, 1) := by decide +kernel
theorem dL_law_1582 : decode cL_law 1582 = .ok (.iload 4, 2) := by decide +kernel
theorem dL_law_1584 : decode cL_law 1584 = .ok (.iconst 1, 1) := by decide +kernel
theorem dL_law_1585 : decode cL_law 1585 = .ok (.iadd, 1) := by decide +kernel
theorem dL_law_1586 : decode cL_law 1586 = .ok (.iaload, 1) := by decide +kernel
theorem dL_law_1587 : decode cL_law 1587 = .ok (.invokevirtual 210, 3) := by decide +kernel
theorem dL_law_1590 : decode cL_law 1590 = .ok (.istore 6, 2) := by decide +kernel
theorem dL_law_1592 : decode cL_law 1592 = .ok (.aload_n 2, 1) := by decide +kernel
theorem dL_law_1593 : decode cL_law 1593 = .ok (.invokevirtual 103, 3) := by decide +kernel
theorem dL_law_1596 : decode cL_law 1596 = .ok (.iload 5, 2) := by decide +kernel
theorem dL_law_1598 : decode cL_law 1598 = .ok (.if_icmp .eq 5, 3) := by decide +kernel
theorem dL_law_1601 : decode cL_law 1601 = .ok (.iconst 0, 1) := by decide +kernel
theorem dL_law_1602 : decode cL_law 1602 = .ok (.ireturn, 1) := by decide +kernel
theorem dL_law_1603 : decode cL_law 1603 = .ok (.iload 5, 2) := by decide +kernel
theorem dL_law_1605 : decode cL_law 1605 = .ok (.ifCond .ne 15, 3) := by decide +kernel
theorem dL_law_1608 : decode cL_law 1608 = .ok (.aload_n 3, 1) := by decide +kernel
theorem dL_law_1609 : decode cL_law 1609 = .ok (.iconst 0, 1) := by decide +kernel
theorem dL_law_1610 : decode cL_law 1610 = .ok (.laload, 1) := by decide +kernel
theorem dL_law_1611 : decode cL_law 1611 = .ok (.iload 6, 2) := by decide +kernel
theorem dL_law_1613 : decode cL_law 1613 = .ok (.i2l, 1) := by decide +kernel
theorem dL_law_1614 : decode cL_law 1614 = .ok (.lcmp, 1) := by decide +kernel
theorem dL_law_1615 : decode cL_law 1615 = .ok (.ifCond .eq 5, 3) := by decide +kernel
theorem dL_law_1618 : decode cL_law 1618 = .ok (.iconst 0, 1) := by decide +kernel
theorem dL_law_1619 : decode cL_law 1619 = .ok (.ireturn, 1) := by decide +kernel
theorem dL_law_1620 : decode cL_law 1620 = .ok (.goto 302, 3) := by decide +kernel
theorem dL_law_1623 : decode cL_law 1623 = .ok (.aload_n 1, 1) := by decide +kernel
theorem dL_law_1624 : decode cL_law 1624 = .ok (.invokevirtual 211, 3) := by decide +kernel
theorem dL_law_1627 : decode cL_law 1627 = .ok (.aload_n 2, 1) := by decide +kernel
theorem dL_law_1628 : decode cL_law 1628 = .ok (.invokevirtual 214, 3) := by decide +kernel
theorem dL_law_1631 : decode cL_law 1631 = .ok (.if_icmp .eq 291, 3) := by decide +kernel
theorem dL_law_1634 : decode cL_law 1634 = .ok (.iconst 0, 1) := by decide +kernel
theorem dL_law_1635 : decode cL_law 1635 = .ok (.ireturn, 1) := by decide +kernel
theorem dL_law_1636 : decode cL_law 1636 = .ok (.aload_n 1, 1) := by decide +kernel
theorem dL_law_1637 : decode cL_law 1637 = .ok (.aload_n 0, 1) := by decide +kernel
theorem dL_law_1638 : decode cL_law 1638 = .ok (.iload 4, 2) := by decide +kernel
theorem dL_law_1640 : decode cL_law 1640 = .ok (.iconst 1, 1) := by decide +kernel
theorem dL_law_1641 : decode cL_law 1641 = .ok (.iadd, 1) := by decide +kernel
theorem dL_law_1642 : decode cL_law 1642 = .ok (.iaload, 1) := by decide +kernel
theorem dL_law_1643 : decode cL_law 1643 = .ok (.aload_n 3, 1) := by decide +kernel
theorem dL_law_1644 : decode cL_law 1644 = .ok (.invokestatic 215, 3) := by decide +kernel
theorem dL_law_1647 : decode cL_law 1647 = .ok (.istore 5, 2) := by decide +kernel
theorem dL_law_1649 : decode cL_law 1649 = .ok (.aload_n 2, 1) := by decide +kernel
theorem dL_law_1650 : decode cL_law 1650 = .ok (.aload_n 0, 1) := by decide +kernel
theorem dL_law_1651 : decode cL_law 1651 = .ok (.iload 4, 2) := by decide +kernel
theorem dL_law_1653 : decode cL_law 1653 = .ok (.iconst 1, 1) := by decide +kernel
theorem dL_law_1654 : decode cL_law 1654 = .ok (.iadd, 1) := by decide +kernel
theorem dL_law_1655 : decode cL_law 1655 = .ok (.iaload, 1) := by decide +kernel
theorem dL_law_1656 : decode cL_law 1656 = .ok (.invokevirtual 217, 3) := by decide +kernel
theorem dL_law_1659 : decode cL_law 1659 = .ok (.istore 6, 2) := by decide +kernel
theorem dL_law_1661 : decode cL_law 1661 = .ok (.aload_n 2, 1) := by decide +kernel
theorem dL_law_1662 : decode cL_law 1662 = .ok (.invokevirtual 103, 3) := by decide +kernel
theorem dL_law_1665 : decode cL_law 1665 = .ok (.iload 5, 2) := by decide +kernel
theorem dL_law_1667 : decode cL_law 1667 = .ok (.if_icmp .eq 5, 3) := by decide +kernel
theorem dL_law_1670 : decode cL_law 1670 = .ok (.iconst 0, 1) := by decide +kernel
theorem dL_law_1671 : decode cL_law 1671 = .ok (.ireturn, 1) := by decide +kernel
theorem dL_law_1672 : decode cL_law 1672 = .ok (.iload 5, 2) := by decide +kernel
theorem dL_law_1674 : decode cL_law 1674 = .ok (.ifCond .ne 15, 3) := by decide +kernel
theorem dL_law_1677 : decode cL_law 1677 = .ok (.aload_n 3, 1) := by decide +kernel
theorem dL_law_1678 : decode cL_law 1678 = .ok (.iconst 0, 1) := by decide +kernel
theorem dL_law_1679 : decode cL_law 1679 = .ok (.laload, 1) := by decide +kernel
theorem dL_law_1680 : decode cL_law 1680 = .ok (.iload 6, 2) := by decide +kernel
theorem dL_law_1682 : decode cL_law 1682 = .ok (.i2l, 1) := by decide +kernel
theorem dL_law_1683 : decode cL_law 1683 = .ok (.lcmp, 1) := by decide +kernel
theorem dL_law_1684 : decode cL_law 1684 = .ok (.ifCond .eq 5, 3) := by decide +kernel
theorem dL_law_1687 : decode cL_law 1687 = .ok (.iconst 0, 1) := by decide +kernel
theorem dL_law_1688 : decode cL_law 1688 = .ok (.ireturn, 1) := by decide +kernel
theorem dL_law_1689 : decode cL_law 1689 = .ok (.goto 233, 3) := by decide +kernel
theorem dL_law_1692 : decode cL_law 1692 = .ok (.aload_n 1, 1) := by decide +kernel
theorem dL_law_1693 : decode cL_law 1693 = .ok (.aload_n 0, 1) := by decide +kernel
theorem dL_law_1694 : decode cL_law 1694 = .ok (.iload 4, 2) := by decide +kernel
theorem dL_law_1696 : decode cL_law 1696 = .ok (.iconst 1, 1) := by decide +kernel
theorem dL_law_1697 : decode cL_law 1697 = .ok (.iadd, 1) := by decide +kernel
theorem dL_law_1698 : decode cL_law 1698 = .ok (.iaload, 1) := by decide +kernel
theorem dL_law_1699 : decode cL_law 1699 = .ok (.aload_n 0, 1) := by decide +kernel
theorem dL_law_1700 : decode cL_law 1700 = .ok (.iload 4, 2) := by decide +kernel
theorem dL_law_1702 : decode cL_law 1702 = .ok (.iconst 2, 1) := by decide +kernel
theorem dL_law_1703 : decode cL_law 1703 = .ok (.iadd, 1) := by decide +kernel
theorem dL_law_1704 : decode cL_law 1704 = .ok (.iaload, 1) := by decide +kernel
theorem dL_law_1705 : decode cL_law 1705 = .ok (.aload_n 0, 1) := by decide +kernel
theorem dL_law_1706 : decode cL_law 1706 = .ok (.iload 4, 2) := by decide +kernel
theorem dL_law_1708 : decode cL_law 1708 = .ok (.iconst 3, 1) := by decide +kernel
theorem dL_law_1709 : decode cL_law 1709 = .ok (.iadd, 1) := by decide +kernel
theorem dL_law_1710 : decode cL_law 1710 = .ok (.iaload, 1) := by decide +kernel
theorem dL_law_1711 : decode cL_law 1711 = .ok (.aload_n 3, 1) := by decide +kernel
theorem dL_law_1712 : decode cL_law 1712 = .ok (.invokestatic 218, 3) := by decide +kernel
theorem dL_law_1715 : decode cL_law 1715 = .ok (.istore 5, 2) := by decide +kernel
theorem dL_law_1717 : decode cL_law 1717 = .ok (.aload_n 2, 1) := by decide +kernel
theorem dL_law_1718 : decode cL_law 1718 = .ok (.aload_n 0, 1) := by decide +kernel
theorem dL_law_1719 : decode cL_law 1719 = .ok (.iload 4, 2) := by decide +kernel
theorem dL_law_1721 : decode cL_law 1721 = .ok (.iconst 1, 1) := by decide +kernel
theorem dL_law_1722 : decode cL_law 1722 = .ok (.iadd, 1) := by decide +kernel
theorem dL_law_1723 : decode cL_law 1723 = .ok (.iaload, 1) := by decide +kernel
theorem dL_law_1724 : decode cL_law 1724 = .ok (.aload_n 0, 1) := by decide +kernel
theorem dL_law_1725 : decode cL_law 1725 = .ok (.iload 4, 2) := by decide +kernel
theorem dL_law_1727 : decode cL_law 1727 = .ok (.iconst 2, 1) := by decide +kernel
theorem dL_law_1728 : decode cL_law 1728 = .ok (.iadd, 1) := by decide +kernel
theorem dL_law_1729 : decode cL_law 1729 = .ok (.iaload, 1) := by decide +kernel
theorem dL_law_1730 : decode cL_law 1730 = .ok (.aload_n 0, 1) := by decide +kernel
theorem dL_law_1731 : decode cL_law 1731 = .ok (.iload 4, 2) := by decide +kernel
theorem dL_law_1733 : decode cL_law 1733 = .ok (.iconst 3, 1) := by decide +kernel
theorem dL_law_1734 : decode cL_law 1734 = .ok (.iadd, 1) := by decide +kernel
theorem dL_law_1735 : decode cL_law 1735 = .ok (.iaload, 1) := by decide +kernel
theorem dL_law_1736 : decode cL_law 1736 = .ok (.invokevirtual 221, 3) := by decide +kernel
theorem dL_law_1739 : decode cL_law 1739 = .ok (.istore 6, 2) := by decide +kernel
theorem dL_law_1741 : decode cL_law 1741 = .ok (.aload_n 2, 1) := by decide +kernel
theorem dL_law_1742 : decode cL_law 1742 = .ok (.invokevirtual 103, 3) := by decide +kernel
theorem dL_law_1745 : decode cL_law 1745 = .ok (.iload 5, 2) := by decide +kernel
theorem dL_law_1747 : decode cL_law 1747 = .ok (.if_icmp .eq 5, 3) := by decide +kernel
theorem dL_law_1750 : decode cL_law 1750 = .ok (.iconst 0, 1) := by decide +kernel
theorem dL_law_1751 : decode cL_law 1751 = .ok (.ireturn, 1) := by decide +kernel
theorem dL_law_1752 : decode cL_law 1752 = .ok (.iload 5, 2) := by decide +kernel
theorem dL_law_1754 : decode cL_law 1754 = .ok (.ifCond .ne 15, 3) := by decide +kernel
theorem dL_law_1757 : decode cL_law 1757 = .ok (.aload_n 3, 1) := by decide +kernel
theorem dL_law_1758 : decode cL_law 1758 = .ok (.iconst 0, 1) := by decide +kernel
theorem dL_law_1759 : decode cL_law 1759 = .ok (.laload, 1) := by decide +kernel
theorem dL_law_1760 : decode cL_law 1760 = .ok (.iload 6, 2) := by decide +kernel
theorem dL_law_1762 : decode cL_law 1762 = .ok (.i2l, 1) := by decide +kernel
theorem dL_law_1763 : decode cL_law 1763 = .ok (.lcmp, 1) := by decide +kernel
theorem dL_law_1764 : decode cL_law 1764 = .ok (.ifCond .eq 5, 3) := by decide +kernel
theorem dL_law_1767 : decode cL_law 1767 = .ok (.iconst 0, 1) := by decide +kernel
theorem dL_law_1768 : decode cL_law 1768 = .ok (.ireturn, 1) := by decide +kernel
theorem dL_law_1769 : decode cL_law 1769 = .ok (.goto 153, 3) := by decide +kernel
theorem dL_law_1772 : decode cL_law 1772 = .ok (.aload_n 1, 1) := by decide +kernel
theorem dL_law_1773 : decode cL_law 1773 = .ok (.aload_n 0, 1) := by decide +kernel
theorem dL_law_1774 : decode cL_law 1774 = .ok (.iload 4, 2) := by decide +kernel
theorem dL_law_1776 : decode cL_law 1776 = .ok (.iconst 1, 1) := by decide +kernel
theorem dL_law_1777 : decode cL_law 1777 = .ok (.iadd, 1) := by decide +kernel
theorem dL_law_1778 : decode cL_law 1778 = .ok (.iaload, 1) := by decide +kernel
theorem dL_law_1779 : decode cL_law 1779 = .ok (.aload_n 0, 1) := by decide +kernel
theorem dL_law_1780 : decode cL_law 1780 = .ok (.iload 4, 2) := by decide +kernel
theorem dL_law_1782 : decode cL_law 1782 = .ok (.iconst 2, 1) := by decide +kernel
theorem dL_law_1783 : decode cL_law 1783 = .ok (.iadd, 1) := by decide +kernel
theorem dL_law_1784 : decode cL_law 1784 = .ok (.iaload, 1) := by decide +kernel
theorem dL_law_1785 : decode cL_law 1785 = .ok (.aload_n 0, 1) := by decide +kernel
theorem dL_law_1786 : decode cL_law 1786 = .ok (.iload 4, 2) := by decide +kernel
theorem dL_law_1788 : decode cL_law 1788 = .ok (.iconst 3, 1) := by decide +kernel
theorem dL_law_1789 : decode cL_law 1789 = .ok (.iadd, 1) := by decide +kernel
theorem dL_law_1790 : decode cL_law 1790 = .ok (.iaload, 1) := by decide +kernel
theorem dL_law_1791 : decode cL_law 1791 = .ok (.aload_n 0, 1) := by decide +kernel
theorem dL_law_1792 : decode cL_law 1792 = .ok (.iload 4, 2) := by decide +kernel
theorem dL_law_1794 : decode cL_law 1794 = .ok (.iconst 4, 1) := by decide +kernel
theorem dL_law_1795 : decode cL_law 1795 = .ok (.iadd, 1) := by decide +kernel
theorem dL_law_1796 : decode cL_law 1796 = .ok (.iaload, 1) := by decide +kernel
theorem dL_law_1797 : decode cL_law 1797 = .ok (.aload_n 3, 1) := by decide +kernel
theorem dL_law_1798 : decode cL_law 1798 = .ok (.invokestatic 222, 3) := by decide +kernel
theorem dL_law_1801 : decode cL_law 1801 = .ok (.istore 5, 2) := by decide +kernel
theorem dL_law_1803 : decode cL_law 1803 = .ok (.aload_n 2, 1) := by decide +kernel
theorem dL_law_1804 : decode cL_law 1804 = .ok (.aload_n 0, 1) := by decide +kernel
theorem dL_law_1805 : decode cL_law 1805 = .ok (.iload 4, 2) := by decide +kernel
theorem dL_law_1807 : decode cL_law 1807 = .ok (.iconst 1, 1) := by decide +kernel
theorem dL_law_1808 : decode cL_law 1808 = .ok (.iadd, 1) := by decide +kernel
theorem dL_law_1809 : decode cL_law 1809 = .ok (.iaload, 1) := by decide +kernel
theorem dL_law_1810 : decode cL_law 1810 = .ok (.aload_n 0, 1) := by decide +kernel
theorem dL_law_1811 : decode cL_law 1811 = .ok (.iload 4, 2) := by decide +kernel
theorem dL_law_1813 : decode cL_law 1813 = .ok (.iconst 2, 1) := by decide +kernel
theorem dL_law_1814 : decode cL_law 1814 = .ok (.iadd, 1) := by decide +kernel
theorem dL_law_1815 : decode cL_law 1815 = .ok (.iaload, 1) := by decide +kernel
theorem dL_law_1816 : decode cL_law 1816 = .ok (.aload_n 0, 1) := by decide +kernel
theorem dL_law_1817 : decode cL_law 1817 = .ok (.iload 4, 2) := by decide +kernel
theorem dL_law_1819 : decode cL_law 1819 = .ok (.iconst 3, 1) := by decide +kernel
theorem dL_law_1820 : decode cL_law 1820 = .ok (.iadd, 1) := by decide +kernel
theorem dL_law_1821 : decode cL_law 1821 = .ok (.iaload, 1) := by decide +kernel
theorem dL_law_1822 : decode cL_law 1822 = .ok (.aload_n 0, 1) := by decide +kernel
theorem dL_law_1823 : decode cL_law 1823 = .ok (.iload 4, 2) := by decide +kernel
theorem dL_law_1825 : decode cL_law 1825 = .ok (.iconst 4, 1) := by decide +kernel
theorem dL_law_1826 : decode cL_law 1826 = .ok (.iadd, 1) := by decide +kernel
theorem dL_law_1827 : decode cL_law 1827 = .ok (.iaload, 1) := by decide +kernel
theorem dL_law_1828 : decode cL_law 1828 = .ok (.invokevirtual 225, 3) := by decide +kernel
theorem dL_law_1831 : decode cL_law 1831 = .ok (.istore 6, 2) := by decide +kernel
theorem dL_law_1833 : decode cL_law 1833 = .ok (.aload_n 2, 1) := by decide +kernel
theorem dL_law_1834 : decode cL_law 1834 = .ok (.invokevirtual 103, 3) := by decide +kernel
theorem dL_law_1837 : decode cL_law 1837 = .ok (.iload 5, 2) := by decide +kernel
theorem dL_law_1839 : decode cL_law 1839 = .ok (.if_icmp .eq 5, 3) := by decide +kernel
theorem dL_law_1842 : decode cL_law 1842 = .ok (.iconst 0, 1) := by decide +kernel
theorem dL_law_1843 : decode cL_law 1843 = .ok (.ireturn, 1) := by decide +kernel
theorem dL_law_1844 : decode cL_law 1844 = .ok (.iload 5, 2) := by decide +kernel
theorem dL_law_1846 : decode cL_law 1846 = .ok (.ifCond .ne 15, 3) := by decide +kernel
theorem dL_law_1849 : decode cL_law 1849 = .ok (.aload_n 3, 1) := by decide +kernel
theorem dL_law_1850 : decode cL_law 1850 = .ok (.iconst 0, 1) := by decide +kernel
theorem dL_law_1851 : decode cL_law 1851 = .ok (.laload, 1) := by decide +kernel
theorem dL_law_1852 : decode cL_law 1852 = .ok (.iload 6, 2) := by decide +kernel
theorem dL_law_1854 : decode cL_law 1854 = .ok (.i2l, 1) := by decide +kernel
theorem dL_law_1855 : decode cL_law 1855 = .ok (.lcmp, 1) := by decide +kernel
theorem dL_law_1856 : decode cL_law 1856 = .ok (.ifCond .eq 5, 3) := by decide +kernel
theorem dL_law_1859 : decode cL_law 1859 = .ok (.iconst 0, 1) := by decide +kernel
theorem dL_law_1860 : decode cL_law 1860 = .ok (.ireturn, 1) := by decide +kernel
theorem dL_law_1861 : decode cL_law 1861 = .ok (.goto 61, 3) := by decide +kernel
theorem dL_law_1864 : decode cL_law 1864 = .ok (.aload_n 1, 1) := by decide +kernel
theorem dL_law_1865 : decode cL_law 1865 = .ok (.aload_n 3, 1) := by decide +kernel
theorem dL_law_1866 : decode cL_law 1866 = .ok (.invokestatic 226, 3) := by decide +kernel
theorem dL_law_1869 : decode cL_law 1869 = .ok (.istore 5, 2) := by decide +kernel
theorem dL_law_1871 : decode cL_law 1871 = .ok (.aload_n 2, 1) := by decide +kernel
theorem dL_law_1872 : decode cL_law 1872 = .ok (.invokevirtual 229, 3) := by decide +kernel
theorem dL_law_1875 : decode cL_law 1875 = .ok (.istore 6, 2) := by decide +kernel
theorem dL_law_1877 : decode cL_law 1877 = .ok (.aload_n 2, 1) := by decide +kernel
theorem dL_law_1878 : decode cL_law 1878 = .ok (.invokevirtual 103, 3) := by decide +kernel
theorem dL_law_1881 : decode cL_law 1881 = .ok (.iload 5, 2) := by decide +kernel
theorem dL_law_1883 : decode cL_law 1883 = .ok (.if_icmp .eq 5, 3) := by decide +kernel
theorem dL_law_1886 : decode cL_law 1886 = .ok (.iconst 0, 1) := by decide +kernel
theorem dL_law_1887 : decode cL_law 1887 = .ok (.ireturn, 1) := by decide +kernel
theorem dL_law_1888 : decode cL_law 1888 = .ok (.iload 5, 2) := by decide +kernel
theorem dL_law_1890 : decode cL_law 1890 = .ok (.ifCond .ne 15, 3) := by decide +kernel
theorem dL_law_1893 : decode cL_law 1893 = .ok (.aload_n 3, 1) := by decide +kernel
theorem dL_law_1894 : decode cL_law 1894 = .ok (.iconst 0, 1) := by decide +kernel
theorem dL_law_1895 : decode cL_law 1895 = .ok (.laload, 1) := by decide +kernel
theorem dL_law_1896 : decode cL_law 1896 = .ok (.iload 6, 2) := by decide +kernel
theorem dL_law_1898 : decode cL_law 1898 = .ok (.i2l, 1) := by decide +kernel
theorem dL_law_1899 : decode cL_law 1899 = .ok (.lcmp, 1) := by decide +kernel
theorem dL_law_1900 : decode cL_law 1900 = .ok (.ifCond .eq 5, 3) := by decide +kernel
theorem dL_law_1903 : decode cL_law 1903 = .ok (.iconst 0, 1) := by decide +kernel
theorem dL_law_1904 : decode cL_law 1904 = .ok (.ireturn, 1) := by decide +kernel
theorem dL_law_1905 : decode cL_law 1905 = .ok (.goto 17, 3) := by decide +kernel
theorem dL_law_1908 : decode cL_law 1908 = .ok (.aload_n 1, 1) := by decide +kernel
theorem dL_law_1909 : decode cL_law 1909 = .ok (.invokevirtual 230, 3) := by decide +kernel
theorem dL_law_1912 : decode cL_law 1912 = .ok (.aload_n 2, 1) := by decide +kernel
theorem dL_law_1913 : decode cL_law 1913 = .ok (.invokevirtual 234, 3) := by decide +kernel
theorem dL_law_1916 : decode cL_law 1916 = .ok (.lcmp, 1) := by decide +kernel
theorem dL_law_1917 : decode cL_law 1917 = .ok (.ifCond .eq 5, 3) := by decide +kernel
theorem dL_law_1920 : decode cL_law 1920 = .ok (.iconst 0, 1) := by decide +kernel
theorem dL_law_1921 : decode cL_law 1921 = .ok (.ireturn, 1) := by decide +kernel
theorem dL_law_1922 : decode cL_law 1922 = .ok (.iinc 4 5, 3) := by decide +kernel
theorem dL_law_1925 : decode cL_law 1925 = .ok (.goto (-1902), 3) := by decide +kernel
theorem dL_law_1928 : decode cL_law 1928 = .ok (.iconst 1, 1) := by decide +kernel
theorem dL_law_1929 : decode cL_law 1929 = .ok (.ireturn, 1) := by decide +kernel
end
section
theorem dJ0_length_8abf5_0 : decode cJ0_length_8abf5 0 = .ok (.aload_n 0, 1) := by decide +kernel
theorem dJ0_length_8abf5_1 : decode cJ0_length_8abf5 1 = .ok (.getfield 9, 3) := by decide +kernel
theorem dJ0_length_8abf5_4 : decode cJ0_length_8abf5 4 = .ok (.arraylength, 1) := by decide +kernel
theorem dJ0_length_8abf5_5 : decode cJ0_length_8abf5 5 = .ok (.aload_n 0, 1) := by decide +kernel
theorem dJ0_length_8abf5_6 : decode cJ0_length_8abf5 6 = .ok (.invokevirtual 335, 3) := by decide +kernel
theorem dJ0_length_8abf5_9 : decode cJ0_length_8abf5 9 = .ok (.ishr, 1) := by decide +kernel
theorem dJ0_length_8abf5_10 : decode cJ0_length_8abf5 10 = .ok (.ireturn, 1) := by decide +kernel
theorem dJ0_charAt_5068e_0 : decode cJ0_charAt_5068e 0 = .ok (.aload_n 0, 1) := by decide +kernel
theorem dJ0_charAt_5068e_1 : decode cJ0_charAt_5068e 1 = .ok (.invokevirtual 492, 3) := by decide +kernel
theorem dJ0_charAt_5068e_4 : decode cJ0_charAt_5068e 4 = .ok (.ifCond .eq 12, 3) := by decide +kernel
theorem dJ0_charAt_5068e_7 : decode cJ0_charAt_5068e 7 = .ok (.aload_n 0, 1) := by decide +kernel
theorem dJ0_charAt_5068e_8 : decode cJ0_charAt_5068e 8 = .ok (.getfield 9, 3) := by decide +kernel
theorem dJ0_charAt_5068e_11 : decode cJ0_charAt_5068e 11 = .ok (.iload_n 1, 1) := by decide +kernel
theorem dJ0_charAt_5068e_12 : decode cJ0_charAt_5068e 12 = .ok (.invokestatic 495, 3) := by decide +kernel
theorem dJ0_charAt_5068e_15 : decode cJ0_charAt_5068e 15 = .ok (.ireturn, 1) := by decide +kernel
theorem dJ0_charAt_5068e_16 : decode cJ0_charAt_5068e 16 = .ok (.aload_n 0, 1) := by decide +kernel
theorem dJ0_charAt_5068e_17 : decode cJ0_charAt_5068e 17 = .ok (.getfield 9, 3) := by decide +kernel
theorem dJ0_charAt_5068e_20 : decode cJ0_charAt_5068e 20 = .ok (.iload_n 1, 1) := by decide +kernel
theorem dJ0_charAt_5068e_21 : decode cJ0_charAt_5068e 21 = .ok (.invokestatic 498, 3) := by decide +kernel
theorem dJ0_charAt_5068e_24 : decode cJ0_charAt_5068e 24 = .ok (.ireturn, 1) := by decide +kernel
theorem dJ0_indexOf_0f7a4_0 : decode cJ0_indexOf_0f7a4 0 = .ok (.aload_n 0, 1) := by decide +kernel
theorem dJ0_indexOf_0f7a4_1 : decode cJ0_indexOf_0f7a4 1 = .ok (.iload_n 1, 1) := by decide +kernel
theorem dJ0_indexOf_0f7a4_2 : decode cJ0_indexOf_0f7a4 2 = .ok (.iconst 0, 1) := by decide +kernel
theorem dJ0_indexOf_0f7a4_3 : decode cJ0_indexOf_0f7a4 3 = .ok (.invokevirtual 633, 3) := by decide +kernel
theorem dJ0_indexOf_0f7a4_6 : decode cJ0_indexOf_0f7a4 6 = .ok (.ireturn, 1) := by decide +kernel
theorem dJ0_indexOf_7cf53_0 : decode cJ0_indexOf_7cf53 0 = .ok (.aload_n 0, 1) := by decide +kernel
theorem dJ0_indexOf_7cf53_1 : decode cJ0_indexOf_7cf53 1 = .ok (.invokevirtual 492, 3) := by decide +kernel
theorem dJ0_indexOf_7cf53_4 : decode cJ0_indexOf_7cf53 4 = .ok (.ifCond .eq 19, 3) := by decide +kernel
theorem dJ0_indexOf_7cf53_7 : decode cJ0_indexOf_7cf53 7 = .ok (.aload_n 0, 1) := by decide +kernel
theorem dJ0_indexOf_7cf53_8 : decode cJ0_indexOf_7cf53 8 = .ok (.getfield 9, 3) := by decide +kernel
theorem dJ0_indexOf_7cf53_11 : decode cJ0_indexOf_7cf53 11 = .ok (.iload_n 1, 1) := by decide +kernel
theorem dJ0_indexOf_7cf53_12 : decode cJ0_indexOf_7cf53 12 = .ok (.iload_n 2, 1) := by decide +kernel
theorem dJ0_indexOf_7cf53_13 : decode cJ0_indexOf_7cf53 13 = .ok (.aload_n 0, 1) := by decide +kernel
theorem dJ0_indexOf_7cf53_14 : decode cJ0_indexOf_7cf53 14 = .ok (.invokevirtual 505, 3) := by decide +kernel
theorem dJ0_indexOf_7cf53_17 : decode cJ0_indexOf_7cf53 17 = .ok (.invokestatic 637, 3) := by decide +kernel
theorem dJ0_indexOf_7cf53_20 : decode cJ0_indexOf_7cf53 20 = .ok (.goto 16, 3) := by decide +kernel
theorem dJ0_indexOf_7cf53_23 : decode cJ0_indexOf_7cf53 23 = .ok (.aload_n 0, 1) := by decide +kernel
theorem dJ0_indexOf_7cf53_24 : decode cJ0_indexOf_7cf53 24 = .ok (.getfield 9, 3) := by decide +kernel
theorem dJ0_indexOf_7cf53_27 : decode cJ0_indexOf_7cf53 27 = .ok (.iload_n 1, 1) := by decide +kernel
theorem dJ0_indexOf_7cf53_28 : decode cJ0_indexOf_7cf53 28 = .ok (.iload_n 2, 1) := by decide +kernel
theorem dJ0_indexOf_7cf53_29 : decode cJ0_indexOf_7cf53 29 = .ok (.aload_n 0, 1) := by decide +kernel
theorem dJ0_indexOf_7cf53_30 : decode cJ0_indexOf_7cf53 30 = .ok (.invokevirtual 505, 3) := by decide +kernel
theorem dJ0_indexOf_7cf53_33 : decode cJ0_indexOf_7cf53 33 = .ok (.invokestatic 640, 3) := by decide +kernel
theorem dJ0_indexOf_7cf53_36 : decode cJ0_indexOf_7cf53 36 = .ok (.ireturn, 1) := by decide +kernel
theorem dJ0_coder_7d493_0 : decode cJ0_coder_7d493 0 = .ok (.getstatic 38, 3) := by decide +kernel
theorem dJ0_coder_7d493_3 : decode cJ0_coder_7d493 3 = .ok (.ifCond .eq 10, 3) := by decide +kernel
theorem dJ0_coder_7d493_6 : decode cJ0_coder_7d493 6 = .ok (.aload_n 0, 1) := by decide +kernel
theorem dJ0_coder_7d493_7 : decode cJ0_coder_7d493 7 = .ok (.getfield 15, 3) := by decide +kernel
theorem dJ0_coder_7d493_10 : decode cJ0_coder_7d493 10 = .ok (.goto 4, 3) := by decide +kernel
theorem dJ0_coder_7d493_13 : decode cJ0_coder_7d493 13 = .ok (.iconst 1, 1) := by decide +kernel
theorem dJ0_coder_7d493_14 : decode cJ0_coder_7d493 14 = .ok (.ireturn, 1) := by decide +kernel
theorem dJ0_isLatin1_aae02_0 : decode cJ0_isLatin1_aae02 0 = .ok (.getstatic 38, 3) := by decide +kernel
theorem dJ0_isLatin1_aae02_3 : decode cJ0_isLatin1_aae02 3 = .ok (.ifCond .eq 14, 3) := by decide +kernel
theorem dJ0_isLatin1_aae02_6 : decode cJ0_isLatin1_aae02 6 = .ok (.aload_n 0, 1) := by decide +kernel
theorem dJ0_isLatin1_aae02_7 : decode cJ0_isLatin1_aae02 7 = .ok (.getfield 15, 3) := by decide +kernel
theorem dJ0_isLatin1_aae02_10 : decode cJ0_isLatin1_aae02 10 = .ok (.ifCond .ne 7, 3) := by decide +kernel
theorem dJ0_isLatin1_aae02_13 : decode cJ0_isLatin1_aae02 13 = .ok (.iconst 1, 1) := by decide +kernel
theorem dJ0_isLatin1_aae02_14 : decode cJ0_isLatin1_aae02 14 = .ok (.goto 4, 3) := by decide +kernel
theorem dJ0_isLatin1_aae02_17 : decode cJ0_isLatin1_aae02 17 = .ok (.iconst 0, 1) := by decide +kernel
theorem dJ0_isLatin1_aae02_18 : decode cJ0_isLatin1_aae02 18 = .ok (.ireturn, 1) := by decide +kernel
theorem dJ0_checkIndex_df160_0 : decode cJ0_checkIndex_df160 0 = .ok (.iload_n 0, 1) := by decide +kernel
theorem dJ0_checkIndex_df160_1 : decode cJ0_checkIndex_df160 1 = .ok (.iload_n 1, 1) := by decide +kernel
theorem dJ0_checkIndex_df160_2 : decode cJ0_checkIndex_df160 2 = .ok (.getstatic 1053, 3) := by decide +kernel
theorem dJ0_checkIndex_df160_5 : decode cJ0_checkIndex_df160 5 = .ok (.invokestatic 1059, 3) := by decide +kernel
theorem dJ0_checkIndex_df160_8 : decode cJ0_checkIndex_df160 8 = .ok (.pop, 1) := by decide +kernel
theorem dJ0_checkIndex_df160_9 : decode cJ0_checkIndex_df160 9 = .ok (.return_, 1) := by decide +kernel
theorem dJ0_checkBoundsBeginEnd_23922_0 : decode cJ0_checkBoundsBeginEnd_23922 0 = .ok (.iload_n 0, 1) := by decide +kernel
theorem dJ0_checkBoundsBeginEnd_23922_1 : decode cJ0_checkBoundsBeginEnd_23922 1 = .ok (.iload_n 1, 1) := by decide +kernel
theorem dJ0_checkBoundsBeginEnd_23922_2 : decode cJ0_checkBoundsBeginEnd_23922 2 = .ok (.iload_n 2, 1) := by decide +kernel
theorem dJ0_checkBoundsBeginEnd_23922_3 : decode cJ0_checkBoundsBeginEnd_23922 3 = .ok (.getstatic 1053, 3) := by decide +kernel
theorem dJ0_checkBoundsBeginEnd_23922_6 : decode cJ0_checkBoundsBeginEnd_23922 6 = .ok (.invokestatic 1062, 3) := by decide +kernel
theorem dJ0_checkBoundsBeginEnd_23922_9 : decode cJ0_checkBoundsBeginEnd_23922 9 = .ok (.pop, 1) := by decide +kernel
theorem dJ0_checkBoundsBeginEnd_23922_10 : decode cJ0_checkBoundsBeginEnd_23922 10 = .ok (.return_, 1) := by decide +kernel
theorem dJ1_charAt_3b067_0 : decode cJ1_charAt_3b067 0 = .ok (.iload_n 1, 1) := by decide +kernel
theorem dJ1_charAt_3b067_1 : decode cJ1_charAt_3b067 1 = .ok (.aload_n 0, 1) := by decide +kernel
theorem dJ1_charAt_3b067_2 : decode cJ1_charAt_3b067 2 = .ok (.arraylength, 1) := by decide +kernel
theorem dJ1_charAt_3b067_3 : decode cJ1_charAt_3b067 3 = .ok (.invokestatic 9, 3) := by decide +kernel
theorem dJ1_charAt_3b067_6 : decode cJ1_charAt_3b067 6 = .ok (.aload_n 0, 1) := by decide +kernel
theorem dJ1_charAt_3b067_7 : decode cJ1_charAt_3b067 7 = .ok (.iload_n 1, 1) := by decide +kernel
theorem dJ1_charAt_3b067_8 : decode cJ1_charAt_3b067 8 = .ok (.baload, 1) := by decide +kernel
theorem dJ1_charAt_3b067_9 : decode cJ1_charAt_3b067 9 = .ok (.sipush 255, 3) := by decide +kernel
theorem dJ1_charAt_3b067_12 : decode cJ1_charAt_3b067 12 = .ok (.iand, 1) := by decide +kernel
theorem dJ1_charAt_3b067_13 : decode cJ1_charAt_3b067 13 = .ok (.i2c, 1) := by decide +kernel
theorem dJ1_charAt_3b067_14 : decode cJ1_charAt_3b067 14 = .ok (.ireturn, 1) := by decide +kernel
theorem dJ1_canEncode_9a6ad_0 : decode cJ1_canEncode_9a6ad 0 = .ok (.iload_n 0, 1) := by decide +kernel
theorem dJ1_canEncode_9a6ad_1 : decode cJ1_canEncode_9a6ad 1 = .ok (.ifCond .lt 14, 3) := by decide +kernel
theorem dJ1_canEncode_9a6ad_4 : decode cJ1_canEncode_9a6ad 4 = .ok (.iload_n 0, 1) := by decide +kernel
theorem dJ1_canEncode_9a6ad_5 : decode cJ1_canEncode_9a6ad 5 = .ok (.sipush 255, 3) := by decide +kernel
theorem dJ1_canEncode_9a6ad_8 : decode cJ1_canEncode_9a6ad 8 = .ok (.if_icmp .gt 7, 3) := by decide +kernel
theorem dJ1_canEncode_9a6ad_11 : decode cJ1_canEncode_9a6ad 11 = .ok (.iconst 1, 1) := by decide +kernel
theorem dJ1_canEncode_9a6ad_12 : decode cJ1_canEncode_9a6ad 12 = .ok (.goto 4, 3) := by decide +kernel
theorem dJ1_canEncode_9a6ad_15 : decode cJ1_canEncode_9a6ad 15 = .ok (.iconst 0, 1) := by decide +kernel
theorem dJ1_canEncode_9a6ad_16 : decode cJ1_canEncode_9a6ad 16 = .ok (.ireturn, 1) := by decide +kernel
theorem dJ1_indexOf_4cfef_0 : decode cJ1_indexOf_4cfef 0 = .ok (.iload_n 1, 1) := by decide +kernel
theorem dJ1_indexOf_4cfef_1 : decode cJ1_indexOf_4cfef 1 = .ok (.invokestatic 88, 3) := by decide +kernel
theorem dJ1_indexOf_4cfef_4 : decode cJ1_indexOf_4cfef 4 = .ok (.ifCond .ne 5, 3) := by decide +kernel
theorem dJ1_indexOf_4cfef_7 : decode cJ1_indexOf_4cfef 7 = .ok (.iconst (-1), 1) := by decide +kernel
theorem dJ1_indexOf_4cfef_8 : decode cJ1_indexOf_4cfef 8 = .ok (.ireturn, 1) := by decide +kernel
theorem dJ1_indexOf_4cfef_9 : decode cJ1_indexOf_4cfef 9 = .ok (.iload_n 2, 1) := by decide +kernel
theorem dJ1_indexOf_4cfef_10 : decode cJ1_indexOf_4cfef 10 = .ok (.iconst 0, 1) := by decide +kernel
theorem dJ1_indexOf_4cfef_11 : decode cJ1_indexOf_4cfef 11 = .ok (.invokestatic 92, 3) := by decide +kernel
theorem dJ1_indexOf_4cfef_14 : decode cJ1_indexOf_4cfef 14 = .ok (.istore_n 2, 1) := by decide +kernel
theorem dJ1_indexOf_4cfef_15 : decode cJ1_indexOf_4cfef 15 = .ok (.iload_n 3, 1) := by decide +kernel
theorem dJ1_indexOf_4cfef_16 : decode cJ1_indexOf_4cfef 16 = .ok (.aload_n 0, 1) := by decide +kernel
theorem dJ1_indexOf_4cfef_17 : decode cJ1_indexOf_4cfef 17 = .ok (.arraylength, 1) := by decide +kernel
theorem dJ1_indexOf_4cfef_18 : decode cJ1_indexOf_4cfef 18 = .ok (.invokestatic 38, 3) := by decide +kernel
theorem dJ1_indexOf_4cfef_21 : decode cJ1_indexOf_4cfef 21 = .ok (.istore_n 3, 1) := by decide +kernel
theorem dJ1_indexOf_4cfef_22 : decode cJ1_indexOf_4cfef 22 = .ok (.iload_n 2, 1) := by decide +kernel
theorem dJ1_indexOf_4cfef_23 : decode cJ1_indexOf_4cfef 23 = .ok (.iload_n 3, 1) := by decide +kernel
theorem dJ1_indexOf_4cfef_24 : decode cJ1_indexOf_4cfef 24 = .ok (.if_icmp .lt 5, 3) := by decide +kernel
theorem dJ1_indexOf_4cfef_27 : decode cJ1_indexOf_4cfef 27 = .ok (.iconst (-1), 1) := by decide +kernel
theorem dJ1_indexOf_4cfef_28 : decode cJ1_indexOf_4cfef 28 = .ok (.ireturn, 1) := by decide +kernel
theorem dJ1_indexOf_4cfef_29 : decode cJ1_indexOf_4cfef 29 = .ok (.aload_n 0, 1) := by decide +kernel
theorem dJ1_indexOf_4cfef_30 : decode cJ1_indexOf_4cfef 30 = .ok (.iload_n 1, 1) := by decide +kernel
theorem dJ1_indexOf_4cfef_31 : decode cJ1_indexOf_4cfef 31 = .ok (.iload_n 2, 1) := by decide +kernel
theorem dJ1_indexOf_4cfef_32 : decode cJ1_indexOf_4cfef 32 = .ok (.iload_n 3, 1) := by decide +kernel
theorem dJ1_indexOf_4cfef_33 : decode cJ1_indexOf_4cfef 33 = .ok (.invokestatic 95, 3) := by decide +kernel
theorem dJ1_indexOf_4cfef_36 : decode cJ1_indexOf_4cfef 36 = .ok (.ireturn, 1) := by decide +kernel
theorem dJ1_indexOfChar_4cfef_0 : decode cJ1_indexOfChar_4cfef 0 = .ok (.iload_n 1, 1) := by decide +kernel
theorem dJ1_indexOfChar_4cfef_1 : decode cJ1_indexOfChar_4cfef 1 = .ok (.i2b, 1) := by decide +kernel
theorem dJ1_indexOfChar_4cfef_2 : decode cJ1_indexOfChar_4cfef 2 = .ok (.istore 4, 2) := by decide +kernel
theorem dJ1_indexOfChar_4cfef_4 : decode cJ1_indexOfChar_4cfef 4 = .ok (.iload_n 2, 1) := by decide +kernel
theorem dJ1_indexOfChar_4cfef_5 : decode cJ1_indexOfChar_4cfef 5 = .ok (.istore 5, 2) := by decide +kernel
theorem dJ1_indexOfChar_4cfef_7 : decode cJ1_indexOfChar_4cfef 7 = .ok (.iload 5, 2) := by decide +kernel
theorem dJ1_indexOfChar_4cfef_9 : decode cJ1_indexOfChar_4cfef 9 = .ok (.iload_n 3, 1) := by decide +kernel
theorem dJ1_indexOfChar_4cfef_10 : decode cJ1_indexOfChar_4cfef 10 = .ok (.if_icmp .ge 21, 3) := by decide +kernel
theorem dJ1_indexOfChar_4cfef_13 : decode cJ1_indexOfChar_4cfef 13 = .ok (.aload_n 0, 1) := by decide +kernel
theorem dJ1_indexOfChar_4cfef_14 : decode cJ1_indexOfChar_4cfef 14 = .ok (.iload 5, 2) := by decide +kernel
theorem dJ1_indexOfChar_4cfef_16 : decode cJ1_indexOfChar_4cfef 16 = .ok (.baload, 1) := by decide +kernel
theorem dJ1_indexOfChar_4cfef_17 : decode cJ1_indexOfChar_4cfef 17 = .ok (.iload 4, 2) := by decide +kernel
theorem dJ1_indexOfChar_4cfef_19 : decode cJ1_indexOfChar_4cfef 19 = .ok (.if_icmp .ne 6, 3) := by decide +kernel
theorem dJ1_indexOfChar_4cfef_22 : decode cJ1_indexOfChar_4cfef 22 = .ok (.iload 5, 2) := by decide +kernel
theorem dJ1_indexOfChar_4cfef_24 : decode cJ1_indexOfChar_4cfef 24 = .ok (.ireturn, 1) := by decide +kernel
theorem dJ1_indexOfChar_4cfef_25 : decode cJ1_indexOfChar_4cfef 25 = .ok (.iinc 5 1, 3) := by decide +kernel
theorem dJ1_indexOfChar_4cfef_28 : decode cJ1_indexOfChar_4cfef 28 = .ok (.goto (-21), 3) := by decide +kernel
theorem dJ1_indexOfChar_4cfef_31 : decode cJ1_indexOfChar_4cfef 31 = .ok (.iconst (-1), 1) := by decide +kernel
theorem dJ1_indexOfChar_4cfef_32 : decode cJ1_indexOfChar_4cfef 32 = .ok (.ireturn, 1) := by decide +kernel
theorem dJ11_isValidCodePoint_9a6ad_0 : decode cJ11_isValidCodePoint_9a6ad 0 = .ok (.iload_n 0, 1) := by decide +kernel
theorem dJ11_isValidCodePoint_9a6ad_1 : decode cJ11_isValidCodePoint_9a6ad 1 = .ok (.bipush 16, 2) := by decide +kernel
theorem dJ11_isValidCodePoint_9a6ad_3 : decode cJ11_isValidCodePoint_9a6ad 3 = .ok (.iushr, 1) := by decide +kernel
theorem dJ11_isValidCodePoint_9a6ad_4 : decode cJ11_isValidCodePoint_9a6ad 4 = .ok (.istore_n 1, 1) := by decide +kernel
theorem dJ11_isValidCodePoint_9a6ad_5 : decode cJ11_isValidCodePoint_9a6ad 5 = .ok (.iload_n 1, 1) := by decide +kernel
theorem dJ11_isValidCodePoint_9a6ad_6 : decode cJ11_isValidCodePoint_9a6ad 6 = .ok (.bipush 17, 2) := by decide +kernel
theorem dJ11_isValidCodePoint_9a6ad_8 : decode cJ11_isValidCodePoint_9a6ad 8 = .ok (.if_icmp .ge 7, 3) := by decide +kernel
theorem dJ11_isValidCodePoint_9a6ad_11 : decode cJ11_isValidCodePoint_9a6ad 11 = .ok (.iconst 1, 1) := by decide +kernel
theorem dJ11_isValidCodePoint_9a6ad_12 : decode cJ11_isValidCodePoint_9a6ad 12 = .ok (.goto 4, 3) := by decide +kernel
theorem dJ11_isValidCodePoint_9a6ad_15 : decode cJ11_isValidCodePoint_9a6ad 15 = .ok (.iconst 0, 1) := by decide +kernel
theorem dJ11_isValidCodePoint_9a6ad_16 : decode cJ11_isValidCodePoint_9a6ad 16 = .ok (.ireturn, 1) := by decide +kernel
theorem dJ11_highSurrogate_5068e_0 : decode cJ11_highSurrogate_5068e 0 = .ok (.iload_n 0, 1) := by decide +kernel
theorem dJ11_highSurrogate_5068e_1 : decode cJ11_highSurrogate_5068e 1 = .ok (.bipush 10, 2) := by decide +kernel
theorem dJ11_highSurrogate_5068e_3 : decode cJ11_highSurrogate_5068e 3 = .ok (.iushr, 1) := by decide +kernel
theorem dJ11_highSurrogate_5068e_4 : decode cJ11_highSurrogate_5068e 4 = .ok (.ldc 110, 2) := by decide +kernel
theorem dJ11_highSurrogate_5068e_6 : decode cJ11_highSurrogate_5068e 6 = .ok (.iadd, 1) := by decide +kernel
theorem dJ11_highSurrogate_5068e_7 : decode cJ11_highSurrogate_5068e 7 = .ok (.i2c, 1) := by decide +kernel
theorem dJ11_highSurrogate_5068e_8 : decode cJ11_highSurrogate_5068e 8 = .ok (.ireturn, 1) := by decide +kernel
theorem dJ11_lowSurrogate_5068e_0 : decode cJ11_lowSurrogate_5068e 0 = .ok (.iload_n 0, 1) := by decide +kernel
theorem dJ11_lowSurrogate_5068e_1 : decode cJ11_lowSurrogate_5068e 1 = .ok (.sipush 1023, 3) := by decide +kernel
theorem dJ11_lowSurrogate_5068e_4 : decode cJ11_lowSurrogate_5068e 4 = .ok (.iand, 1) := by decide +kernel
theorem dJ11_lowSurrogate_5068e_5 : decode cJ11_lowSurrogate_5068e 5 = .ok (.ldc 76, 2) := by decide +kernel
theorem dJ11_lowSurrogate_5068e_7 : decode cJ11_lowSurrogate_5068e 7 = .ok (.iadd, 1) := by decide +kernel
theorem dJ11_lowSurrogate_5068e_8 : decode cJ11_lowSurrogate_5068e 8 = .ok (.i2c, 1) := by decide +kernel
theorem dJ11_lowSurrogate_5068e_9 : decode cJ11_lowSurrogate_5068e 9 = .ok (.ireturn, 1) := by decide +kernel
theorem dJ2_getChar_3b067_0 : decode cJ2_getChar_3b067 0 = .ok (.getstatic 44, 3) := by decide +kernel
theorem dJ2_getChar_3b067_3 : decode cJ2_getChar_3b067 3 = .ok (.ifCond .ne 25, 3) := by decide +kernel
theorem dJ2_getChar_3b067_6 : decode cJ2_getChar_3b067 6 = .ok (.iload_n 1, 1) := by decide +kernel
theorem dJ2_getChar_3b067_7 : decode cJ2_getChar_3b067 7 = .ok (.ifCond .lt 11, 3) := by decide +kernel
theorem dJ2_getChar_3b067_10 : decode cJ2_getChar_3b067 10 = .ok (.iload_n 1, 1) := by decide +kernel
theorem dJ2_getChar_3b067_11 : decode cJ2_getChar_3b067 11 = .ok (.aload_n 0, 1) := by decide +kernel
theorem dJ2_getChar_3b067_12 : decode cJ2_getChar_3b067 12 = .ok (.invokestatic 48, 3) := by decide +kernel
theorem dJ2_getChar_3b067_15 : decode cJ2_getChar_3b067 15 = .ok (.if_icmp .lt 13, 3) := by decide +kernel
theorem dJ2_getChar_3b067_18 : decode cJ2_getChar_3b067 18 = .ok (.new 52, 3) := by decide +kernel
theorem dJ2_getChar_3b067_21 : decode cJ2_getChar_3b067 21 = .ok (.dup, 1) := by decide +kernel
theorem dJ2_getChar_3b067_22 : decode cJ2_getChar_3b067 22 = .ok (.ldc 54, 2) := by decide +kernel
theorem dJ2_getChar_3b067_24 : decode cJ2_getChar_3b067 24 = .ok (.invokespecial 56, 3) := by decide +kernel
theorem dJ2_getChar_3b067_27 : decode cJ2_getChar_3b067 27 = .ok (.athrow, 1) := by decide +kernel
theorem dJ2_getChar_3b067_28 : decode cJ2_getChar_3b067 28 = .ok (.iload_n 1, 1) := by decide +kernel
theorem dJ2_getChar_3b067_29 : decode cJ2_getChar_3b067 29 = .ok (.iconst 1, 1) := by decide +kernel
theorem dJ2_getChar_3b067_30 : decode cJ2_getChar_3b067 30 = .ok (.ishl, 1) := by decide +kernel
theorem dJ2_getChar_3b067_31 : decode cJ2_getChar_3b067 31 = .ok (.istore_n 1, 1) := by decide +kernel
theorem dJ2_getChar_3b067_32 : decode cJ2_getChar_3b067 32 = .ok (.aload_n 0, 1) := by decide +kernel
theorem dJ2_getChar_3b067_33 : decode cJ2_getChar_3b067 33 = .ok (.iload_n 1, 1) := by decide +kernel
theorem dJ2_getChar_3b067_34 : decode cJ2_getChar_3b067 34 = .ok (.iinc 1 1, 3) := by decide +kernel
theorem dJ2_getChar_3b067_37 : decode cJ2_getChar_3b067 37 = .ok (.baload, 1) := by decide +kernel
theorem dJ2_getChar_3b067_38 : decode cJ2_getChar_3b067 38 = .ok (.sipush 255, 3) := by decide +kernel
theorem dJ2_getChar_3b067_41 : decode cJ2_getChar_3b067 41 = .ok (.iand, 1) := by decide +kernel
theorem dJ2_getChar_3b067_42 : decode cJ2_getChar_3b067 42 = .ok (.getstatic 59, 3) := by decide +kernel
theorem dJ2_getChar_3b067_45 : decode cJ2_getChar_3b067 45 = .ok (.ishl, 1) := by decide +kernel
theorem dJ2_getChar_3b067_46 : decode cJ2_getChar_3b067 46 = .ok (.aload_n 0, 1) := by decide +kernel
theorem dJ2_getChar_3b067_47 : decode cJ2_getChar_3b067 47 = .ok (.iload_n 1, 1) := by decide +kernel
theorem dJ2_getChar_3b067_48 : decode cJ2_getChar_3b067 48 = .ok (.baload, 1) := by decide +kernel
theorem dJ2_getChar_3b067_49 : decode cJ2_getChar_3b067 49 = .ok (.sipush 255, 3) := by decide +kernel
theorem dJ2_getChar_3b067_52 : decode cJ2_getChar_3b067 52 = .ok (.iand, 1) := by decide +kernel
theorem dJ2_getChar_3b067_53 : decode cJ2_getChar_3b067 53 = .ok (.getstatic 63, 3) := by decide +kernel
theorem dJ2_getChar_3b067_56 : decode cJ2_getChar_3b067 56 = .ok (.ishl, 1) := by decide +kernel
theorem dJ2_getChar_3b067_57 : decode cJ2_getChar_3b067 57 = .ok (.ior, 1) := by decide +kernel
theorem dJ2_getChar_3b067_58 : decode cJ2_getChar_3b067 58 = .ok (.i2c, 1) := by decide +kernel
theorem dJ2_getChar_3b067_59 : decode cJ2_getChar_3b067 59 = .ok (.ireturn, 1) := by decide +kernel
theorem dJ2_length_9d52b_0 : decode cJ2_length_9d52b 0 = .ok (.aload_n 0, 1) := by decide +kernel
theorem dJ2_length_9d52b_1 : decode cJ2_length_9d52b 1 = .ok (.arraylength, 1) := by decide +kernel
theorem dJ2_length_9d52b_2 : decode cJ2_length_9d52b 2 = .ok (.iconst 1, 1) := by decide +kernel
theorem dJ2_length_9d52b_3 : decode cJ2_length_9d52b 3 = .ok (.ishr, 1) := by decide +kernel
theorem dJ2_length_9d52b_4 : decode cJ2_length_9d52b 4 = .ok (.ireturn, 1) := by decide +kernel
theorem dJ2_indexOf_4cfef_0 : decode cJ2_indexOf_4cfef 0 = .ok (.iload_n 2, 1) := by decide +kernel
theorem dJ2_indexOf_4cfef_1 : decode cJ2_indexOf_4cfef 1 = .ok (.iconst 0, 1) := by decide +kernel
theorem dJ2_indexOf_4cfef_2 : decode cJ2_indexOf_4cfef 2 = .ok (.invokestatic 224, 3) := by decide +kernel
theorem dJ2_indexOf_4cfef_5 : decode cJ2_indexOf_4cfef 5 = .ok (.istore_n 2, 1) := by decide +kernel
theorem dJ2_indexOf_4cfef_6 : decode cJ2_indexOf_4cfef 6 = .ok (.iload_n 3, 1) := by decide +kernel
theorem dJ2_indexOf_4cfef_7 : decode cJ2_indexOf_4cfef 7 = .ok (.aload_n 0, 1) := by decide +kernel
theorem dJ2_indexOf_4cfef_8 : decode cJ2_indexOf_4cfef 8 = .ok (.arraylength, 1) := by decide +kernel
theorem dJ2_indexOf_4cfef_9 : decode cJ2_indexOf_4cfef 9 = .ok (.iconst 1, 1) := by decide +kernel
theorem dJ2_indexOf_4cfef_10 : decode cJ2_indexOf_4cfef 10 = .ok (.ishr, 1) := by decide +kernel
theorem dJ2_indexOf_4cfef_11 : decode cJ2_indexOf_4cfef 11 = .ok (.invokestatic 183, 3) := by decide +kernel
theorem dJ2_indexOf_4cfef_14 : decode cJ2_indexOf_4cfef 14 = .ok (.istore_n 3, 1) := by decide +kernel
theorem dJ2_indexOf_4cfef_15 : decode cJ2_indexOf_4cfef 15 = .ok (.iload_n 2, 1) := by decide +kernel
theorem dJ2_indexOf_4cfef_16 : decode cJ2_indexOf_4cfef 16 = .ok (.iload_n 3, 1) := by decide +kernel
theorem dJ2_indexOf_4cfef_17 : decode cJ2_indexOf_4cfef 17 = .ok (.if_icmp .lt 5, 3) := by decide +kernel
theorem dJ2_indexOf_4cfef_20 : decode cJ2_indexOf_4cfef 20 = .ok (.iconst (-1), 1) := by decide +kernel
theorem dJ2_indexOf_4cfef_21 : decode cJ2_indexOf_4cfef 21 = .ok (.ireturn, 1) := by decide +kernel
theorem dJ2_indexOf_4cfef_22 : decode cJ2_indexOf_4cfef 22 = .ok (.iload_n 1, 1) := by decide +kernel
theorem dJ2_indexOf_4cfef_23 : decode cJ2_indexOf_4cfef 23 = .ok (.ldc 227, 2) := by decide +kernel
theorem dJ2_indexOf_4cfef_25 : decode cJ2_indexOf_4cfef 25 = .ok (.if_icmp .ge 11, 3) := by decide +kernel
theorem dJ2_indexOf_4cfef_28 : decode cJ2_indexOf_4cfef 28 = .ok (.aload_n 0, 1) := by decide +kernel
theorem dJ2_indexOf_4cfef_29 : decode cJ2_indexOf_4cfef 29 = .ok (.iload_n 1, 1) := by decide +kernel
theorem dJ2_indexOf_4cfef_30 : decode cJ2_indexOf_4cfef 30 = .ok (.iload_n 2, 1) := by decide +kernel
theorem dJ2_indexOf_4cfef_31 : decode cJ2_indexOf_4cfef 31 = .ok (.iload_n 3, 1) := by decide +kernel
theorem dJ2_indexOf_4cfef_32 : decode cJ2_indexOf_4cfef 32 = .ok (.invokestatic 228, 3) := by decide +kernel
theorem dJ2_indexOf_4cfef_35 : decode cJ2_indexOf_4cfef 35 = .ok (.ireturn, 1) := by decide +kernel
theorem dJ2_indexOf_4cfef_36 : decode cJ2_indexOf_4cfef 36 = .ok (.aload_n 0, 1) := by decide +kernel
theorem dJ2_indexOf_4cfef_37 : decode cJ2_indexOf_4cfef 37 = .ok (.iload_n 1, 1) := by decide +kernel
theorem dJ2_indexOf_4cfef_38 : decode cJ2_indexOf_4cfef 38 = .ok (.iload_n 2, 1) := by decide +kernel
theorem dJ2_indexOf_4cfef_39 : decode cJ2_indexOf_4cfef 39 = .ok (.iload_n 3, 1) := by decide +kernel
theorem dJ2_indexOf_4cfef_40 : decode cJ2_indexOf_4cfef 40 = .ok (.invokestatic 232, 3) := by decide +kernel
theorem dJ2_indexOf_4cfef_43 : decode cJ2_indexOf_4cfef 43 = .ok (.ireturn, 1) := by decide +kernel
theorem dJ2_indexOfChar_4cfef_0 : decode cJ2_indexOfChar_4cfef 0 = .ok (.iload_n 2, 1) := by decide +kernel
theorem dJ2_indexOfChar_4cfef_1 : decode cJ2_indexOfChar_4cfef 1 = .ok (.iload_n 3, 1) := by decide +kernel
theorem dJ2_indexOfChar_4cfef_2 : decode cJ2_indexOfChar_4cfef 2 = .ok (.aload_n 0, 1) := by decide +kernel
theorem dJ2_indexOfChar_4cfef_3 : decode cJ2_indexOfChar_4cfef 3 = .ok (.invokestatic 96, 3) := by decide +kernel
theorem dJ2_indexOfChar_4cfef_6 : decode cJ2_indexOfChar_4cfef 6 = .ok (.aload_n 0, 1) := by decide +kernel
theorem dJ2_indexOfChar_4cfef_7 : decode cJ2_indexOfChar_4cfef 7 = .ok (.iload_n 1, 1) := by decide +kernel
theorem dJ2_indexOfChar_4cfef_8 : decode cJ2_indexOfChar_4cfef 8 = .ok (.iload_n 2, 1) := by decide +kernel
theorem dJ2_indexOfChar_4cfef_9 : decode cJ2_indexOfChar_4cfef 9 = .ok (.iload_n 3, 1) := by decide +kernel
theorem dJ2_indexOfChar_4cfef_10 : decode cJ2_indexOfChar_4cfef 10 = .ok (.invokestatic 244, 3) := by decide +kernel
theorem dJ2_indexOfChar_4cfef_13 : decode cJ2_indexOfChar_4cfef 13 = .ok (.ireturn, 1) := by decide +kernel
theorem dJ2_indexOfCharUnsafe_4cfef_0 : decode cJ2_indexOfCharUnsafe_4cfef 0 = .ok (.iload_n 2, 1) := by decide +kernel
theorem dJ2_indexOfCharUnsafe_4cfef_1 : decode cJ2_indexOfCharUnsafe_4cfef 1 = .ok (.istore 4, 2) := by decide +kernel
theorem dJ2_indexOfCharUnsafe_4cfef_3 : decode cJ2_indexOfCharUnsafe_4cfef 3 = .ok (.iload 4, 2) := by decide +kernel
theorem dJ2_indexOfCharUnsafe_4cfef_5 : decode cJ2_indexOfCharUnsafe_4cfef 5 = .ok (.iload_n 3, 1) := by decide +kernel
theorem dJ2_indexOfCharUnsafe_4cfef_6 : decode cJ2_indexOfCharUnsafe_4cfef 6 = .ok (.if_icmp .ge 22, 3) := by decide +kernel
theorem dJ2_indexOfCharUnsafe_4cfef_9 : decode cJ2_indexOfCharUnsafe_4cfef 9 = .ok (.aload_n 0, 1) := by decide +kernel
theorem dJ2_indexOfCharUnsafe_4cfef_10 : decode cJ2_indexOfCharUnsafe_4cfef 10 = .ok (.iload 4, 2) := by decide +kernel
theorem dJ2_indexOfCharUnsafe_4cfef_12 : decode cJ2_indexOfCharUnsafe_4cfef 12 = .ok (.invokestatic 71, 3) := by decide +kernel
theorem dJ2_indexOfCharUnsafe_4cfef_15 : decode cJ2_indexOfCharUnsafe_4cfef 15 = .ok (.iload_n 1, 1) := by decide +kernel
theorem dJ2_indexOfCharUnsafe_4cfef_16 : decode cJ2_indexOfCharUnsafe_4cfef 16 = .ok (.if_icmp .ne 6, 3) := by decide +kernel
theorem dJ2_indexOfCharUnsafe_4cfef_19 : decode cJ2_indexOfCharUnsafe_4cfef 19 = .ok (.iload 4, 2) := by decide +kernel
theorem dJ2_indexOfCharUnsafe_4cfef_21 : decode cJ2_indexOfCharUnsafe_4cfef 21 = .ok (.ireturn, 1) := by decide +kernel
theorem dJ2_indexOfCharUnsafe_4cfef_22 : decode cJ2_indexOfCharUnsafe_4cfef 22 = .ok (.iinc 4 1, 3) := by decide +kernel
theorem dJ2_indexOfCharUnsafe_4cfef_25 : decode cJ2_indexOfCharUnsafe_4cfef 25 = .ok (.goto (-22), 3) := by decide +kernel
theorem dJ2_indexOfCharUnsafe_4cfef_28 : decode cJ2_indexOfCharUnsafe_4cfef 28 = .ok (.iconst (-1), 1) := by decide +kernel
theorem dJ2_indexOfCharUnsafe_4cfef_29 : decode cJ2_indexOfCharUnsafe_4cfef 29 = .ok (.ireturn, 1) := by decide +kernel
theorem dJ2_indexOfSupplementary_4cfef_0 : decode cJ2_indexOfSupplementary_4cfef 0 = .ok (.iload_n 1, 1) := by decide +kernel
theorem dJ2_indexOfSupplementary_4cfef_1 : decode cJ2_indexOfSupplementary_4cfef 1 = .ok (.invokestatic 164, 3) := by decide +kernel
theorem dJ2_indexOfSupplementary_4cfef_4 : decode cJ2_indexOfSupplementary_4cfef 4 = .ok (.ifCond .eq 65, 3) := by decide +kernel
theorem dJ2_indexOfSupplementary_4cfef_7 : decode cJ2_indexOfSupplementary_4cfef 7 = .ok (.iload_n 1, 1) := by decide +kernel
theorem dJ2_indexOfSupplementary_4cfef_8 : decode cJ2_indexOfSupplementary_4cfef 8 = .ok (.invokestatic 157, 3) := by decide +kernel
theorem dJ2_indexOfSupplementary_4cfef_11 : decode cJ2_indexOfSupplementary_4cfef 11 = .ok (.istore 4, 2) := by decide +kernel
theorem dJ2_indexOfSupplementary_4cfef_13 : decode cJ2_indexOfSupplementary_4cfef 13 = .ok (.iload_n 1, 1) := by decide +kernel
theorem dJ2_indexOfSupplementary_4cfef_14 : decode cJ2_indexOfSupplementary_4cfef 14 = .ok (.invokestatic 161, 3) := by decide +kernel
theorem dJ2_indexOfSupplementary_4cfef_17 : decode cJ2_indexOfSupplementary_4cfef 17 = .ok (.istore 5, 2) := by decide +kernel
theorem dJ2_indexOfSupplementary_4cfef_19 : decode cJ2_indexOfSupplementary_4cfef 19 = .ok (.iload_n 2, 1) := by decide +kernel
theorem dJ2_indexOfSupplementary_4cfef_20 : decode cJ2_indexOfSupplementary_4cfef 20 = .ok (.iload_n 3, 1) := by decide +kernel
theorem dJ2_indexOfSupplementary_4cfef_21 : decode cJ2_indexOfSupplementary_4cfef 21 = .ok (.aload_n 0, 1) := by decide +kernel
theorem dJ2_indexOfSupplementary_4cfef_22 : decode cJ2_indexOfSupplementary_4cfef 22 = .ok (.invokestatic 96, 3) := by decide +kernel
theorem dJ2_indexOfSupplementary_4cfef_25 : decode cJ2_indexOfSupplementary_4cfef 25 = .ok (.iload_n 2, 1) := by decide +kernel
theorem dJ2_indexOfSupplementary_4cfef_26 : decode cJ2_indexOfSupplementary_4cfef 26 = .ok (.istore 6, 2) := by decide +kernel
theorem dJ2_indexOfSupplementary_4cfef_28 : decode cJ2_indexOfSupplementary_4cfef 28 = .ok (.iload 6, 2) := by decide +kernel
theorem dJ2_indexOfSupplementary_4cfef_30 : decode cJ2_indexOfSupplementary_4cfef 30 = .ok (.iload_n 3, 1) := by decide +kernel
theorem dJ2_indexOfSupplementary_4cfef_31 : decode cJ2_indexOfSupplementary_4cfef 31 = .ok (.iconst 1, 1) := by decide +kernel
theorem dJ2_indexOfSupplementary_4cfef_32 : decode cJ2_indexOfSupplementary_4cfef 32 = .ok (.isub, 1) := by decide +kernel
theorem dJ2_indexOfSupplementary_4cfef_33 : decode cJ2_indexOfSupplementary_4cfef 33 = .ok (.if_icmp .ge 36, 3) := by decide +kernel
theorem dJ2_indexOfSupplementary_4cfef_36 : decode cJ2_indexOfSupplementary_4cfef 36 = .ok (.aload_n 0, 1) := by decide +kernel
theorem dJ2_indexOfSupplementary_4cfef_37 : decode cJ2_indexOfSupplementary_4cfef 37 = .ok (.iload 6, 2) := by decide +kernel
theorem dJ2_indexOfSupplementary_4cfef_39 : decode cJ2_indexOfSupplementary_4cfef 39 = .ok (.invokestatic 71, 3) := by decide +kernel
theorem dJ2_indexOfSupplementary_4cfef_42 : decode cJ2_indexOfSupplementary_4cfef 42 = .ok (.iload 4, 2) := by decide +kernel
theorem dJ2_indexOfSupplementary_4cfef_44 : decode cJ2_indexOfSupplementary_4cfef 44 = .ok (.if_icmp .ne 19, 3) := by decide +kernel
theorem dJ2_indexOfSupplementary_4cfef_47 : decode cJ2_indexOfSupplementary_4cfef 47 = .ok (.aload_n 0, 1) := by decide +kernel
theorem dJ2_indexOfSupplementary_4cfef_48 : decode cJ2_indexOfSupplementary_4cfef 48 = .ok (.iload 6, 2) := by decide +kernel
theorem dJ2_indexOfSupplementary_4cfef_50 : decode cJ2_indexOfSupplementary_4cfef 50 = .ok (.iconst 1, 1) := by decide +kernel
theorem dJ2_indexOfSupplementary_4cfef_51 : decode cJ2_indexOfSupplementary_4cfef 51 = .ok (.iadd, 1) := by decide +kernel
theorem dJ2_indexOfSupplementary_4cfef_52 : decode cJ2_indexOfSupplementary_4cfef 52 = .ok (.invokestatic 71, 3) := by decide +kernel
theorem dJ2_indexOfSupplementary_4cfef_55 : decode cJ2_indexOfSupplementary_4cfef 55 = .ok (.iload 5, 2) := by decide +kernel
theorem dJ2_indexOfSupplementary_4cfef_57 : decode cJ2_indexOfSupplementary_4cfef 57 = .ok (.if_icmp .ne 6, 3) := by decide +kernel
theorem dJ2_indexOfSupplementary_4cfef_60 : decode cJ2_indexOfSupplementary_4cfef 60 = .ok (.iload 6, 2) := by decide +kernel
theorem dJ2_indexOfSupplementary_4cfef_62 : decode cJ2_indexOfSupplementary_4cfef 62 = .ok (.ireturn, 1) := by decide +kernel
theorem dJ2_indexOfSupplementary_4cfef_63 : decode cJ2_indexOfSupplementary_4cfef 63 = .ok (.iinc 6 1, 3) := by decide +kernel
theorem dJ2_indexOfSupplementary_4cfef_66 : decode cJ2_indexOfSupplementary_4cfef 66 = .ok (.goto (-38), 3) := by decide +kernel
theorem dJ2_indexOfSupplementary_4cfef_69 : decode cJ2_indexOfSupplementary_4cfef 69 = .ok (.iconst (-1), 1) := by decide +kernel
theorem dJ2_indexOfSupplementary_4cfef_70 : decode cJ2_indexOfSupplementary_4cfef 70 = .ok (.ireturn, 1) := by decide +kernel
theorem dJ2_charAt_3b067_0 : decode cJ2_charAt_3b067 0 = .ok (.iload_n 1, 1) := by decide +kernel
theorem dJ2_charAt_3b067_1 : decode cJ2_charAt_3b067 1 = .ok (.aload_n 0, 1) := by decide +kernel
theorem dJ2_charAt_3b067_2 : decode cJ2_charAt_3b067 2 = .ok (.invokestatic 67, 3) := by decide +kernel
theorem dJ2_charAt_3b067_5 : decode cJ2_charAt_3b067 5 = .ok (.aload_n 0, 1) := by decide +kernel
theorem dJ2_charAt_3b067_6 : decode cJ2_charAt_3b067 6 = .ok (.iload_n 1, 1) := by decide +kernel
theorem dJ2_charAt_3b067_7 : decode cJ2_charAt_3b067 7 = .ok (.invokestatic 71, 3) := by decide +kernel
theorem dJ2_charAt_3b067_10 : decode cJ2_charAt_3b067 10 = .ok (.ireturn, 1) := by decide +kernel
theorem dJ2_checkIndex_2214a_0 : decode cJ2_checkIndex_2214a 0 = .ok (.iload_n 0, 1) := by decide +kernel
theorem dJ2_checkIndex_2214a_1 : decode cJ2_checkIndex_2214a 1 = .ok (.aload_n 1, 1) := by decide +kernel
theorem dJ2_checkIndex_2214a_2 : decode cJ2_checkIndex_2214a 2 = .ok (.invokestatic 48, 3) := by decide +kernel
theorem dJ2_checkIndex_2214a_5 : decode cJ2_checkIndex_2214a 5 = .ok (.invokestatic 414, 3) := by decide +kernel
theorem dJ2_checkIndex_2214a_8 : decode cJ2_checkIndex_2214a 8 = .ok (.return_, 1) := by decide +kernel
theorem dJ2_checkBoundsBeginEnd_d044e_0 : decode cJ2_checkBoundsBeginEnd_d044e 0 = .ok (.iload_n 0, 1) := by decide +kernel
theorem dJ2_checkBoundsBeginEnd_d044e_1 : decode cJ2_checkBoundsBeginEnd_d044e 1 = .ok (.iload_n 1, 1) := by decide +kernel
theorem dJ2_checkBoundsBeginEnd_d044e_2 : decode cJ2_checkBoundsBeginEnd_d044e 2 = .ok (.aload_n 2, 1) := by decide +kernel
theorem dJ2_checkBoundsBeginEnd_d044e_3 : decode cJ2_checkBoundsBeginEnd_d044e 3 = .ok (.invokestatic 48, 3) := by decide +kernel
theorem dJ2_checkBoundsBeginEnd_d044e_6 : decode cJ2_checkBoundsBeginEnd_d044e 6 = .ok (.invokestatic 241, 3) := by decide +kernel
theorem dJ2_checkBoundsBeginEnd_d044e_9 : decode cJ2_checkBoundsBeginEnd_d044e 9 = .ok (.return_, 1) := by decide +kernel
theorem dJ3_checkIndex_8e157_0 : decode cJ3_checkIndex_8e157 0 = .ok (.iload_n 0, 1) := by decide +kernel
theorem dJ3_checkIndex_8e157_1 : decode cJ3_checkIndex_8e157 1 = .ok (.ifCond .lt 8, 3) := by decide +kernel
theorem dJ3_checkIndex_8e157_4 : decode cJ3_checkIndex_8e157 4 = .ok (.iload_n 0, 1) := by decide +kernel
theorem dJ3_checkIndex_8e157_5 : decode cJ3_checkIndex_8e157 5 = .ok (.iload_n 1, 1) := by decide +kernel
theorem dJ3_checkIndex_8e157_6 : decode cJ3_checkIndex_8e157 6 = .ok (.if_icmp .lt 10, 3) := by decide +kernel
theorem dJ3_checkIndex_8e157_9 : decode cJ3_checkIndex_8e157 9 = .ok (.aload_n 2, 1) := by decide +kernel
theorem dJ3_checkIndex_8e157_10 : decode cJ3_checkIndex_8e157 10 = .ok (.iload_n 0, 1) := by decide +kernel
theorem dJ3_checkIndex_8e157_11 : decode cJ3_checkIndex_8e157 11 = .ok (.iload_n 1, 1) := by decide +kernel
theorem dJ3_checkIndex_8e157_12 : decode cJ3_checkIndex_8e157 12 = .ok (.invokestatic 95, 3) := by decide +kernel
theorem dJ3_checkIndex_8e157_15 : decode cJ3_checkIndex_8e157 15 = .ok (.athrow, 1) := by decide +kernel
theorem dJ3_checkIndex_8e157_16 : decode cJ3_checkIndex_8e157 16 = .ok (.iload_n 0, 1) := by decide +kernel
theorem dJ3_checkIndex_8e157_17 : decode cJ3_checkIndex_8e157 17 = .ok (.ireturn, 1) := by decide +kernel
theorem dJ3_checkFromToIndex_8c36e_0 : decode cJ3_checkFromToIndex_8c36e 0 = .ok (.iload_n 0, 1) := by decide +kernel
theorem dJ3_checkFromToIndex_8c36e_1 : decode cJ3_checkFromToIndex_8c36e 1 = .ok (.ifCond .lt 13, 3) := by decide +kernel
theorem dJ3_checkFromToIndex_8c36e_4 : decode cJ3_checkFromToIndex_8c36e 4 = .ok (.iload_n 0, 1) := by decide +kernel
theorem dJ3_checkFromToIndex_8c36e_5 : decode cJ3_checkFromToIndex_8c36e 5 = .ok (.iload_n 1, 1) := by decide +kernel
theorem dJ3_checkFromToIndex_8c36e_6 : decode cJ3_checkFromToIndex_8c36e 6 = .ok (.if_icmp .gt 8, 3) := by decide +kernel
theorem dJ3_checkFromToIndex_8c36e_9 : decode cJ3_checkFromToIndex_8c36e 9 = .ok (.iload_n 1, 1) := by decide +kernel
theorem dJ3_checkFromToIndex_8c36e_10 : decode cJ3_checkFromToIndex_8c36e 10 = .ok (.iload_n 2, 1) := by decide +kernel
theorem dJ3_checkFromToIndex_8c36e_11 : decode cJ3_checkFromToIndex_8c36e 11 = .ok (.if_icmp .le 11, 3) := by decide +kernel
theorem dJ3_checkFromToIndex_8c36e_14 : decode cJ3_checkFromToIndex_8c36e 14 = .ok (.aload_n 3, 1) := by decide +kernel
theorem dJ3_checkFromToIndex_8c36e_15 : decode cJ3_checkFromToIndex_8c36e 15 = .ok (.iload_n 0, 1) := by decide +kernel
theorem dJ3_checkFromToIndex_8c36e_16 : decode cJ3_checkFromToIndex_8c36e 16 = .ok (.iload_n 1, 1) := by decide +kernel
theorem dJ3_checkFromToIndex_8c36e_17 : decode cJ3_checkFromToIndex_8c36e 17 = .ok (.iload_n 2, 1) := by decide +kernel
theorem dJ3_checkFromToIndex_8c36e_18 : decode cJ3_checkFromToIndex_8c36e 18 = .ok (.invokestatic 99, 3) := by decide +kernel
theorem dJ3_checkFromToIndex_8c36e_21 : decode cJ3_checkFromToIndex_8c36e 21 = .ok (.athrow, 1) := by decide +kernel
theorem dJ3_checkFromToIndex_8c36e_22 : decode cJ3_checkFromToIndex_8c36e 22 = .ok (.iload_n 0, 1) := by decide +kernel
theorem dJ3_checkFromToIndex_8c36e_23 : decode cJ3_checkFromToIndex_8c36e 23 = .ok (.ireturn, 1) := by decide +kernel
theorem dJ6_bitCount_0f7a4_0 : decode cJ6_bitCount_0f7a4 0 = .ok (.iload_n 0, 1) := by decide +kernel
theorem dJ6_bitCount_0f7a4_1 : decode cJ6_bitCount_0f7a4 1 = .ok (.iload_n 0, 1) := by decide +kernel
theorem dJ6_bitCount_0f7a4_2 : decode cJ6_bitCount_0f7a4 2 = .ok (.iconst 1, 1) := by decide +kernel
theorem dJ6_bitCount_0f7a4_3 : decode cJ6_bitCount_0f7a4 3 = .ok (.iushr, 1) := by decide +kernel
theorem dJ6_bitCount_0f7a4_4 : decode cJ6_bitCount_0f7a4 4 = .ok (.ldc_w 265, 3) := by decide +kernel
theorem dJ6_bitCount_0f7a4_7 : decode cJ6_bitCount_0f7a4 7 = .ok (.iand, 1) := by decide +kernel
theorem dJ6_bitCount_0f7a4_8 : decode cJ6_bitCount_0f7a4 8 = .ok (.isub, 1) := by decide +kernel
theorem dJ6_bitCount_0f7a4_9 : decode cJ6_bitCount_0f7a4 9 = .ok (.istore_n 0, 1) := by decide +kernel
theorem dJ6_bitCount_0f7a4_10 : decode cJ6_bitCount_0f7a4 10 = .ok (.iload_n 0, 1) := by decide +kernel
theorem dJ6_bitCount_0f7a4_11 : decode cJ6_bitCount_0f7a4 11 = .ok (.ldc_w 266, 3) := by decide +kernel
theorem dJ6_bitCount_0f7a4_14 : decode cJ6_bitCount_0f7a4 14 = .ok (.iand, 1) := by decide +kernel
theorem dJ6_bitCount_0f7a4_15 : decode cJ6_bitCount_0f7a4 15 = .ok (.iload_n 0, 1) := by decide +kernel
theorem dJ6_bitCount_0f7a4_16 : decode cJ6_bitCount_0f7a4 16 = .ok (.iconst 2, 1) := by decide +kernel
theorem dJ6_bitCount_0f7a4_17 : decode cJ6_bitCount_0f7a4 17 = .ok (.iushr, 1) := by decide +kernel
theorem dJ6_bitCount_0f7a4_18 : decode cJ6_bitCount_0f7a4 18 = .ok (.ldc_w 266, 3) := by decide +kernel
theorem dJ6_bitCount_0f7a4_21 : decode cJ6_bitCount_0f7a4 21 = .ok (.iand, 1) := by decide +kernel
theorem dJ6_bitCount_0f7a4_22 : decode cJ6_bitCount_0f7a4 22 = .ok (.iadd, 1) := by decide +kernel
theorem dJ6_bitCount_0f7a4_23 : decode cJ6_bitCount_0f7a4 23 = .ok (.istore_n 0, 1) := by decide +kernel
theorem dJ6_bitCount_0f7a4_24 : decode cJ6_bitCount_0f7a4 24 = .ok (.iload_n 0, 1) := by decide +kernel
theorem dJ6_bitCount_0f7a4_25 : decode cJ6_bitCount_0f7a4 25 = .ok (.iload_n 0, 1) := by decide +kernel
theorem dJ6_bitCount_0f7a4_26 : decode cJ6_bitCount_0f7a4 26 = .ok (.iconst 4, 1) := by decide +kernel
theorem dJ6_bitCount_0f7a4_27 : decode cJ6_bitCount_0f7a4 27 = .ok (.iushr, 1) := by decide +kernel
theorem dJ6_bitCount_0f7a4_28 : decode cJ6_bitCount_0f7a4 28 = .ok (.iadd, 1) := by decide +kernel
theorem dJ6_bitCount_0f7a4_29 : decode cJ6_bitCount_0f7a4 29 = .ok (.ldc_w 267, 3) := by decide +kernel
theorem dJ6_bitCount_0f7a4_32 : decode cJ6_bitCount_0f7a4 32 = .ok (.iand, 1) := by decide +kernel
theorem dJ6_bitCount_0f7a4_33 : decode cJ6_bitCount_0f7a4 33 = .ok (.istore_n 0, 1) := by decide +kernel
theorem dJ6_bitCount_0f7a4_34 : decode cJ6_bitCount_0f7a4 34 = .ok (.iload_n 0, 1) := by decide +kernel
theorem dJ6_bitCount_0f7a4_35 : decode cJ6_bitCount_0f7a4 35 = .ok (.iload_n 0, 1) := by decide +kernel
theorem dJ6_bitCount_0f7a4_36 : decode cJ6_bitCount_0f7a4 36 = .ok (.bipush 8, 2) := by decide +kernel
theorem dJ6_bitCount_0f7a4_38 : decode cJ6_bitCount_0f7a4 38 = .ok (.iushr, 1) := by decide +kernel
theorem dJ6_bitCount_0f7a4_39 : decode cJ6_bitCount_0f7a4 39 = .ok (.iadd, 1) := by decide +kernel
theorem dJ6_bitCount_0f7a4_40 : decode cJ6_bitCount_0f7a4 40 = .ok (.istore_n 0, 1) := by decide +kernel
theorem dJ6_bitCount_0f7a4_41 : decode cJ6_bitCount_0f7a4 41 = .ok (.iload_n 0, 1) := by decide +kernel
theorem dJ6_bitCount_0f7a4_42 : decode cJ6_bitCount_0f7a4 42 = .ok (.iload_n 0, 1) := by decide +kernel
theorem dJ6_bitCount_0f7a4_43 : decode cJ6_bitCount_0f7a4 43 = .ok (.bipush 16, 2) := by decide +kernel
theorem dJ6_bitCount_0f7a4_45 : decode cJ6_bitCount_0f7a4 45 = .ok (.iushr, 1) := by decide +kernel
theorem dJ6_bitCount_0f7a4_46 : decode cJ6_bitCount_0f7a4 46 = .ok (.iadd, 1) := by decide +kernel
theorem dJ6_bitCount_0f7a4_47 : decode cJ6_bitCount_0f7a4 47 = .ok (.istore_n 0, 1) := by decide +kernel
theorem dJ6_bitCount_0f7a4_48 : decode cJ6_bitCount_0f7a4 48 = .ok (.iload_n 0, 1) := by decide +kernel
theorem dJ6_bitCount_0f7a4_49 : decode cJ6_bitCount_0f7a4 49 = .ok (.bipush 63, 2) := by decide +kernel
theorem dJ6_bitCount_0f7a4_51 : decode cJ6_bitCount_0f7a4 51 = .ok (.iand, 1) := by decide +kernel
theorem dJ6_bitCount_0f7a4_52 : decode cJ6_bitCount_0f7a4 52 = .ok (.ireturn, 1) := by decide +kernel
theorem dJ9_floorDiv_7cf53_0 : decode cJ9_floorDiv_7cf53 0 = .ok (.iload_n 0, 1) := by decide +kernel
theorem dJ9_floorDiv_7cf53_1 : decode cJ9_floorDiv_7cf53 1 = .ok (.iload_n 1, 1) := by decide +kernel
theorem dJ9_floorDiv_7cf53_2 : decode cJ9_floorDiv_7cf53 2 = .ok (.idiv, 1) := by decide +kernel
theorem dJ9_floorDiv_7cf53_3 : decode cJ9_floorDiv_7cf53 3 = .ok (.istore_n 2, 1) := by decide +kernel
theorem dJ9_floorDiv_7cf53_4 : decode cJ9_floorDiv_7cf53 4 = .ok (.iload_n 0, 1) := by decide +kernel
theorem dJ9_floorDiv_7cf53_5 : decode cJ9_floorDiv_7cf53 5 = .ok (.iload_n 1, 1) := by decide +kernel
theorem dJ9_floorDiv_7cf53_6 : decode cJ9_floorDiv_7cf53 6 = .ok (.ixor, 1) := by decide +kernel
theorem dJ9_floorDiv_7cf53_7 : decode cJ9_floorDiv_7cf53 7 = .ok (.ifCond .ge 14, 3) := by decide +kernel
theorem dJ9_floorDiv_7cf53_10 : decode cJ9_floorDiv_7cf53 10 = .ok (.iload_n 2, 1) := by decide +kernel
theorem dJ9_floorDiv_7cf53_11 : decode cJ9_floorDiv_7cf53 11 = .ok (.iload_n 1, 1) := by decide +kernel
theorem dJ9_floorDiv_7cf53_12 : decode cJ9_floorDiv_7cf53 12 = .ok (.imul, 1) := by decide +kernel
theorem dJ9_floorDiv_7cf53_13 : decode cJ9_floorDiv_7cf53 13 = .ok (.iload_n 0, 1) := by decide +kernel
theorem dJ9_floorDiv_7cf53_14 : decode cJ9_floorDiv_7cf53 14 = .ok (.if_icmp .eq 7, 3) := by decide +kernel
theorem dJ9_floorDiv_7cf53_17 : decode cJ9_floorDiv_7cf53 17 = .ok (.iload_n 2, 1) := by decide +kernel
theorem dJ9_floorDiv_7cf53_18 : decode cJ9_floorDiv_7cf53 18 = .ok (.iconst 1, 1) := by decide +kernel
theorem dJ9_floorDiv_7cf53_19 : decode cJ9_floorDiv_7cf53 19 = .ok (.isub, 1) := by decide +kernel
theorem dJ9_floorDiv_7cf53_20 : decode cJ9_floorDiv_7cf53 20 = .ok (.ireturn, 1) := by decide +kernel
theorem dJ9_floorDiv_7cf53_21 : decode cJ9_floorDiv_7cf53 21 = .ok (.iload_n 2, 1) := by decide +kernel
theorem dJ9_floorDiv_7cf53_22 : decode cJ9_floorDiv_7cf53 22 = .ok (.ireturn, 1) := by decide +kernel
theorem dJ9_floorMod_7cf53_0 : decode cJ9_floorMod_7cf53 0 = .ok (.iload_n 0, 1) := by decide +kernel
theorem dJ9_floorMod_7cf53_1 : decode cJ9_floorMod_7cf53 1 = .ok (.iload_n 1, 1) := by decide +kernel
theorem dJ9_floorMod_7cf53_2 : decode cJ9_floorMod_7cf53 2 = .ok (.irem, 1) := by decide +kernel
theorem dJ9_floorMod_7cf53_3 : decode cJ9_floorMod_7cf53 3 = .ok (.istore_n 2, 1) := by decide +kernel
theorem dJ9_floorMod_7cf53_4 : decode cJ9_floorMod_7cf53 4 = .ok (.iload_n 0, 1) := by decide +kernel
theorem dJ9_floorMod_7cf53_5 : decode cJ9_floorMod_7cf53 5 = .ok (.iload_n 1, 1) := by decide +kernel
theorem dJ9_floorMod_7cf53_6 : decode cJ9_floorMod_7cf53 6 = .ok (.ixor, 1) := by decide +kernel
theorem dJ9_floorMod_7cf53_7 : decode cJ9_floorMod_7cf53 7 = .ok (.ifCond .ge 11, 3) := by decide +kernel
theorem dJ9_floorMod_7cf53_10 : decode cJ9_floorMod_7cf53 10 = .ok (.iload_n 2, 1) := by decide +kernel
theorem dJ9_floorMod_7cf53_11 : decode cJ9_floorMod_7cf53 11 = .ok (.ifCond .eq 7, 3) := by decide +kernel
theorem dJ9_floorMod_7cf53_14 : decode cJ9_floorMod_7cf53 14 = .ok (.iload_n 2, 1) := by decide +kernel
theorem dJ9_floorMod_7cf53_15 : decode cJ9_floorMod_7cf53 15 = .ok (.iload_n 1, 1) := by decide +kernel
theorem dJ9_floorMod_7cf53_16 : decode cJ9_floorMod_7cf53 16 = .ok (.iadd, 1) := by decide +kernel
theorem dJ9_floorMod_7cf53_17 : decode cJ9_floorMod_7cf53 17 = .ok (.ireturn, 1) := by decide +kernel
theorem dJ9_floorMod_7cf53_18 : decode cJ9_floorMod_7cf53 18 = .ok (.iload_n 2, 1) := by decide +kernel
theorem dJ9_floorMod_7cf53_19 : decode cJ9_floorMod_7cf53 19 = .ok (.ireturn, 1) := by decide +kernel
theorem dJ9_abs_0f7a4_0 : decode cJ9_abs_0f7a4 0 = .ok (.iload_n 0, 1) := by decide +kernel
theorem dJ9_abs_0f7a4_1 : decode cJ9_abs_0f7a4 1 = .ok (.ifCond .ge 8, 3) := by decide +kernel
theorem dJ9_abs_0f7a4_4 : decode cJ9_abs_0f7a4 4 = .ok (.iload_n 0, 1) := by decide +kernel
theorem dJ9_abs_0f7a4_5 : decode cJ9_abs_0f7a4 5 = .ok (.ineg, 1) := by decide +kernel
theorem dJ9_abs_0f7a4_6 : decode cJ9_abs_0f7a4 6 = .ok (.goto 4, 3) := by decide +kernel
theorem dJ9_abs_0f7a4_9 : decode cJ9_abs_0f7a4 9 = .ok (.iload_n 0, 1) := by decide +kernel
theorem dJ9_abs_0f7a4_10 : decode cJ9_abs_0f7a4 10 = .ok (.ireturn, 1) := by decide +kernel
theorem dJ9_max_7cf53_0 : decode cJ9_max_7cf53 0 = .ok (.iload_n 0, 1) := by decide +kernel
theorem dJ9_max_7cf53_1 : decode cJ9_max_7cf53 1 = .ok (.iload_n 1, 1) := by decide +kernel
theorem dJ9_max_7cf53_2 : decode cJ9_max_7cf53 2 = .ok (.if_icmp .lt 7, 3) := by decide +kernel
theorem dJ9_max_7cf53_5 : decode cJ9_max_7cf53 5 = .ok (.iload_n 0, 1) := by decide +kernel
theorem dJ9_max_7cf53_6 : decode cJ9_max_7cf53 6 = .ok (.goto 4, 3) := by decide +kernel
theorem dJ9_max_7cf53_9 : decode cJ9_max_7cf53 9 = .ok (.iload_n 1, 1) := by decide +kernel
theorem dJ9_max_7cf53_10 : decode cJ9_max_7cf53 10 = .ok (.ireturn, 1) := by decide +kernel
theorem dJ9_min_7cf53_0 : decode cJ9_min_7cf53 0 = .ok (.iload_n 0, 1) := by decide +kernel
theorem dJ9_min_7cf53_1 : decode cJ9_min_7cf53 1 = .ok (.iload_n 1, 1) := by decide +kernel
theorem dJ9_min_7cf53_2 : decode cJ9_min_7cf53 2 = .ok (.if_icmp .gt 7, 3) := by decide +kernel
theorem dJ9_min_7cf53_5 : decode cJ9_min_7cf53 5 = .ok (.iload_n 0, 1) := by decide +kernel
theorem dJ9_min_7cf53_6 : decode cJ9_min_7cf53 6 = .ok (.goto 4, 3) := by decide +kernel
theorem dJ9_min_7cf53_9 : decode cJ9_min_7cf53 9 = .ok (.iload_n 1, 1) := by decide +kernel
theorem dJ9_min_7cf53_10 : decode cJ9_min_7cf53 10 = .ok (.ireturn, 1) := by decide +kernel
end
section
/-! THE LAYER: abstract values (ints as Int, cells by their places), abstract worlds, one judgement Wa over them -/
abbrev zV : Type := Int ⊕ (Int ⊕ Option (Nat ⊕ Nat))
abbrev zI (n : Int) : zV := .inl n
abbrev zJ (n : Int) : zV := .inr (.inl n)
abbrev zN : zV := .inr (.inr none)
abbrev zR (k : Nat) : zV := .inr (.inr (some (.inl k)))
abbrev zK (k : Nat) : zV := .inr (.inr (some (.inr k)))
abbrev zE : Type := (Nat × Nat × (Int → Int)) ⊕ ((Nat × (Nat → Option Nat)) ⊕ (Nat × List zV))
abbrev zA (t n : Nat) (f : Int → Int) : zE := .inl (t, n, f)
abbrev zQ (n : Nat) (f : Nat → Option Nat) : zE := .inr (.inl (n, f))
abbrev zO (c : Nat) (fs : List zV) : zE := .inr (.inr (c, fs))
abbrev zG : Type := va_G × (Nat → ClassId) × (Nat → Nat) × Nat × (Nat → Int32)
def zc (ac ad : Nat → Nat) (v : zV) : Value := match v with
  | .inl n => .int (Int32.ofInt n)
  | .inr (.inl n) => .long (Int64.ofInt n)
  | .inr (.inr none) => .null
  | .inr (.inr (some (.inl k))) => .ref (ad k)
  | .inr (.inr (some (.inr k))) => .ref (ac k)
def ze (G : zG) (ad : Nat → Nat) (e : zE) : va_E := match e with
  | .inl (t, n, f) => .inl (G.2.1 t, n, if t = 2 then .inr (.inl fun j => Int64.ofInt (f j)) else .inl fun j => Int32.ofInt (f j))
  | .inr (.inl (n, f)) => .inl (G.2.1 3, n, .inr (.inr (.inr (.inr fun j => (f j).map ad))))
  | .inr (.inr (c, fs)) => .inr (c, fs.map (zc G.2.2.1 ad))
def zw (G : zG) (ad : Nat → Nat) (w : List zE) : va_W := w.zipIdx.map fun q => (ad q.2, ze G ad q.1)
theorem zw_at (G : zG) (ad : Nat → Nat) (w : List zE) (k : Nat) : (zw G ad w)[k]? = (w[k]?).map fun e => (ad k, ze G ad e) := by
  simp only [zw, List.getElem?_map, List.getElem?_zipIdx, Option.map_map]
  cases w[k]? <;> simp
theorem zw_get {G : zG} {ad : Nat → Nat} {w : List zE} {k : Nat} {e : zE} (h : w[k]? = some e) : (zw G ad w)[k]? = some (ad k, ze G ad e) := by rw [zw_at, h]; rfl
theorem zw_set (G : zG) (ad : Nat → Nat) (w : List zE) (k : Nat) (e : zE) : zw G ad (w.set k e) = (zw G ad w).set k (ad k, ze G ad e) := by
  apply List.ext_getElem?
  intro i
  rw [zw_at, List.getElem?_set, List.getElem?_set, zw_at]
  by_cases h : k = i
  · subst h
    by_cases hl : k < w.length <;> simp [hl, zw]
  · simp [h]
theorem zw_len (G : zG) (ad : Nat → Nat) (w : List zE) : (zw G ad w).length = w.length := by simp [zw]
def zTys (G : zG) : List (ClassId × FieldType) := [(G.2.1 0, .int), (G.2.1 1, .char), (G.2.1 2, .long), (G.2.1 3, .object "ChordSheet$Sheet")]
abbrev zY : Type := MethodName × ByteArray × Nat × Option FieldType × List (Nat × Nat × Nat × Nat)
abbrev zP : Type := Option zV ⊕ String
def zTones : List Int := [145, 137, 1169, 1161, 2193, 73, 273, 161, 657, 1173]
def zEasy : List Int := [661, 532, 2709, 532, 0, 0, 0, 0, 0, 0]
def zMinor : List Int := [0, 1, 0, 1, 0, 1, 0, 0, 0, 0]
def zBytes : List (List Int) := [[], [109], [55], [109, 55], [109, 97, 106, 55], [100, 105, 109], [97, 117, 103], [115, 117, 115, 52], [54], [57], [70, 67, 71, 68, 65, 69, 66]]
def zMsgs : List (String × Nat × String) := [("ChordSheet", 67, "the code is not from 32 to 126"), ("ChordSheet", 78, "the text is full"), ("ChordSheet", 110, "the width is not from 10 to 200"), ("ChordSheet", 124, "there is no such column"), ("ChordSheet", 167, "there are 40 chords already"), ("ChordSheet", 176, "there is no such chord with a next one"), ("ChordSheet", 216, "the semitones are not from -11 to 11"), ("ChordSheet", 231, "the fret is not from 0 to 7"), ("ChordSheet", 249, "there is no such line, pair or row"), ("ChordSheet", 255, "there is nothing to undo"), ("ChordSheet", 272, "there is no such line"), ("ChordSheet", 274, "there is no such chord"), ("ChordSheet", 276, "the index is negative"), ("ChordSheet", 278, "no key has this tonic")]
/-- what stands from the start and is never written: Quality's constants, their table, String constants; what the tables say -/
def zEnv (G : zG) (A : Nat → Prop) (U : State) (H : Heap) : Prop :=
  (va_K G.1 vwCl (zTys G) U ∧ va_AO "ChordSheet$Sheet" U) ∧
  (vx_Zq Bundle.tN "UNASSIGNED_STACK" Bundle.steD A U H ∧ vx_Zq Bundle.tN "SUPPRESSED_SENTINEL" Bundle.listD A U H) ∧
  (va_Z "ChordSheet$Quality" "ALL" "[LChordSheet$Quality;" (.ref (G.2.2.1 10)) A U H ∧ va_Z "ChordSheet$Quality" "MAJOR" "LChordSheet$Quality;" (.ref (G.2.2.1 0)) A U H ∧ va_Z "java/lang/String" "COMPACT_STRINGS" "Z" (.int 1) A U H) ∧
  (va_T (.object "ChordSheet$Quality") (G.2.2.1 10) 10 (fun j => .ref (G.2.2.1 j)) A U H ∧ va_T .int (G.2.2.1 50) G.2.2.2.1 (fun j => .int (G.2.2.2.2 j)) A U H) ∧
  (∀ i, i < 10 → va_O "ChordSheet$Quality" (G.2.2.1 i) A U H) ∧
  (va_Ef 10 "ChordSheet$Quality" "suffix" "Ljava/lang/String;" (fun i => .ref (G.2.2.1 (11 + i))) G.2.2.1 A U H ∧ va_Ef 10 "ChordSheet$Quality" "tones" "I" (fun i => .int (Int32.ofInt (zTones.getD i 0))) G.2.2.1 A U H ∧
   va_Ef 10 "ChordSheet$Quality" "easyRoots" "I" (fun i => .int (Int32.ofInt (zEasy.getD i 0))) G.2.2.1 A U H ∧ va_Ef 10 "ChordSheet$Quality" "minor" "Z" (fun i => .int (Int32.ofInt (zMinor.getD i 0))) G.2.2.1 A U H) ∧
  (∀ i, i < 11 → va_O "java/lang/String" (G.2.2.1 (11 + i)) A U H ∧ va_OF "java/lang/String" "coder" "B" (.int 0) (G.2.2.1 (11 + i)) A U H ∧ va_OF "java/lang/String" "value" "[B" (.ref (G.2.2.1 (30 + i))) (G.2.2.1 (11 + i)) A U H ∧
    va_T .byte (G.2.2.1 (30 + i)) (zBytes.getD i []).length (fun j => .int (Int32.ofInt ((zBytes.getD i []).getD j 0))) A U H) ∧
  (vk_R "ChordSheet$Notes" 17 "FCGDAEB" (G.2.2.1 21) U ∧ ∀ q ∈ zMsgs, ∃ sa, vk_R q.1 q.2.1 q.2.2 sa U) ∧
  (va_Nc "java/lang/IllegalStateException" "java/lang/IllegalArgumentException" U ∧ va_Nc "java/lang/IllegalStateException" "java/lang/IndexOutOfBoundsException" U)
theorem zEnv_to {G : zG} {A A1 : Nat → Prop} {s U : State} {H : Heap} {locs : List Loc} (h : zEnv G A s s.heap) (hS : va_S A s.heap H locs) (hU : U.heap = H) (hW : s.WarmedH U.vm) (hA : ∀ q, A1 q → A q) : zEnv G A1 U U.heap := by
  rw [hU]
  obtain ⟨⟨a1, a2⟩, ⟨b1, b2⟩, ⟨c1, c2, c3⟩, ⟨d1, d2⟩, e, ⟨f1, f2, f3, f4⟩, g, ⟨i, j⟩, n1, n2⟩ := h
  have hv := hW.alike
  have hk := hS.2.1
  exact ⟨⟨a1.moved hv, a2.moved hv⟩, ⟨vx_Zq.moved hv ((b1.kept hk).narrow hA), vx_Zq.moved hv ((b2.kept hk).narrow hA)⟩,
    ⟨va_Z.moved hv ((c1.kept hk).narrow hA), va_Z.moved hv ((c2.kept hk).narrow hA), va_Z.moved hv ((c3.kept hk).narrow hA)⟩,
    ⟨va_T.moved hv ((d1.kept hk).narrow hA), va_T.moved hv ((d2.kept hk).narrow hA)⟩,
    fun x hx => va_O.moved hv (((e x hx).kept hk).narrow hA),
    ⟨va_Ef.moved hv ((f1.kept hk).narrow hA), va_Ef.moved hv ((f2.kept hk).narrow hA), va_Ef.moved hv ((f3.kept hk).narrow hA), va_Ef.moved hv ((f4.kept hk).narrow hA)⟩,
    fun x hx => ⟨va_O.moved hv (((g x hx).1.kept hk).narrow hA), va_OF.moved hv (((g x hx).2.1.kept hk).narrow hA), va_OF.moved hv (((g x hx).2.2.1.kept hk).narrow hA), va_T.moved hv (((g x hx).2.2.2.kept hk).narrow hA)⟩,
    ⟨vk_R.warm hW i, fun q hq => (j q hq).elim fun sa h => ⟨sa, vk_R.warm hW h⟩⟩, va_Nc.moved hv n1, va_Nc.moved hv n2⟩
/-- the tables' words that last -/
def zt_k (w : Cond) : Bool := match w with
  | .fieldLinkNest .. => true
  | .methodLinkNest .. => true
  | .castable .. => true
  | _ => false
def zTab (U : State) : Prop := ∀ w ∈ lw_tbl, (goodWord w || zt_k w) = true → ∀ a, w.before a U = true
theorem zTab_warm {s U : State} (hW : s.WarmedH U.vm) (h : zTab s) : zTab U := by
  intro w hw hg a
  have h1 := h w hw hg #[]
  rw [Bool.or_eq_true] at hg
  rcases hg with hg | hg
  · exact word_at hW (good_of_word hg) h1
  · cases w <;> simp only [zt_k] at hg <;> first | (exact absurd hg (by decide)) | skip
    · exact va_Nw.use rfl (va_Nw.warmM hW (va_Nw.of rfl h1))
    · exact va_Nw.use rfl (va_Nw.warmF hW (va_Nw.of rfl h1))
    · exact va_Nw.use rfl (va_Nw.warmC hW (va_Nw.of rfl h1))
theorem zTab.at {s : State} (h : zTab s) {w : Cond} (hw : w ∈ lw_tbl) (hg : (goodWord w || zt_k w) = true) (a : Array Value) : w.before a s = true := h w hw hg a
/-- a method's frame: the machine, the tables, the constants -/
def zCx (Y : zY) (d mc ms : Nat) (p : Program) (l : Launch) (R : Room) (s : State) (m : MethodId) (meth : Method) (c : Code) (G : zG) (A : Nat → Prop) : Prop :=
  l.flags = flags0 ∧ (d ≤ R.frames ∧ 34 * d ≤ R.locals ∧ mc ≤ R.cells ∧ ms ≤ R.slots) ∧ p.tables.exec = Jvm.exec ∧ c.code = Y.2.1 ∧ c.maxLocals = Y.2.2.1 ∧ meth.sig.returnType = Y.2.2.2.1 ∧ s.vm.findClass Y.1.cls = some m.cls ∧ meth.locks = false ∧ meth.name = Y.1.name ∧ c.exceptionTable.toList = tableOf Y.2.2.2.2 ∧ zTab s ∧ zEnv G A s s.heap ∧ (∀ q : Nat, s.heap.size ≤ q → A q)
def zSt (G : zG) (A : Nat → Prop) (ad : Nat → Nat) (s : State) (H : Heap) (locs : List Loc) (w : List zE) : Prop := va_P G.1 vwCl (zw G ad w) H ∧ va_D A (zw G ad w) ∧ va_S A s.heap H locs
def zAg (n0 n : Nat) (ad ad0 : Nat → Nat) : Prop := ∀ k, k < n0 ∨ n ≤ k → ad k = ad0 k
def zXC (G : zG) (A : Nat → Prop) (ad0 : Nat → Nat) (n0 : Nat) (Post : zP → List zE → Prop) : String → State → State → Prop := fun E st t =>
  (∃ (w' : List zE) (ad : Nat → Nat), Post (.inr E) w' ∧ n0 ≤ w'.length ∧ zAg n0 w'.length ad ad0 ∧ va_P G.1 vwCl (zw G ad w') t.heap ∧ va_D A (zw G ad w')) ∧ va_F A st t
/-- the instruction that answers v -/
def zRet (Y : zY) (pc : Nat) (v : Option zV) : Prop := match v with
  | none => Y.2.2.2.1 = none ∧ decode Y.2.1 pc = .ok (.return_, 1)
  | some (.inl n) => decode Y.2.1 pc = .ok (.ireturn, 1) ∧ (Y.2.2.2.1 = some .int ∨ (Y.2.2.2.1 = some .boolean ∧ (n = 0 ∨ n = 1)) ∨ (Y.2.2.2.1 = some .char ∧ 0 ≤ n ∧ n < 65536) ∨ (Y.2.2.2.1 = some .byte ∧ 0 ≤ n ∧ n < 128))
  | some (.inr (.inl _)) => decode Y.2.1 pc = .ok (.lreturn, 1) ∧ Y.2.2.2.1 = some .long
  | some (.inr (.inr _)) => decode Y.2.1 pc = .ok (.areturn, 1) ∧ ∃ n, Y.2.2.2.1 = some (.object n)
/-- what suffices at the ends -/
def zFin (Y : zY) (mc ms n0 : Nat) (Post : zP → List zE → Prop) (p : Program) (l : Launch) (e : Env) (R : Room) (s : State) (m : MethodId) (args : Array Value) (below : List Frame) (meth : Method) (c : Code) (G : zG) (A : Nat → Prop) (ad0 : Nat → Nat) (Qm : State → Prop) : Prop :=
  (∀ (v : Option zV) (w' : List zE) (ad : Nat → Nat) (H : Heap) (locs : List Loc) (lsA : Array Slot) (pc nc ns : Nat), Post (.inl v) w' → zRet Y pc v → nc ≤ mc → ns ≤ ms → n0 ≤ w'.length → zAg n0 w'.length ad ad0 → zSt G A ad s H locs w' →
    W p l e R s m args below meth c H locs nc ns Qm (F0 m pc lsA (v.toList.map (zc G.2.2.1 ad)))) ∧
  ∀ U, vx_MQ below (fun _ _ _ _ => False) (zXC G A ad0 n0 Post) args s mc ms A U → Qm U
def zls (ac ad : Nat → Nat) (ls : List (Nat × zV)) : List (Nat × Value) := ls.map fun q => (q.1, zc ac ad q.2)
/-- from this place in the method, with these locals, this stack, this world: it ends as Post says -/
def Wa (Y : zY) (d mc ms n0 : Nat) (Post : zP → List zE → Prop) (pc : Nat) (ls : List (Nat × zV)) (st : List zV) (w : List zE) (nc ns : Nat) : Prop :=
  ∀ (p : Program) (l : Launch) (e : Env) (R : Room) (s : State) (m : MethodId) (args : Array Value) (below : List Frame) (meth : Method) (c : Code) (G : zG) (A : Nat → Prop) (ad0 : Nat → Nat) (Qm : State → Prop),
    zCx Y d mc ms p l R s m meth c G A → zFin Y mc ms n0 Post p l e R s m args below meth c G A ad0 Qm →
    ∀ (ad : Nat → Nat) (H : Heap) (locs : List Loc) (lsA : Array Slot), n0 ≤ w.length ∧ zAg n0 w.length ad ad0 → zSt G A ad s H locs w → lv_has lsA Y.2.2.1 (zls G.2.2.1 ad ls) →
      W p l e R s m args below meth c H locs nc ns Qm (F0 m pc lsA (st.map (zc G.2.2.1 ad)))
abbrev zin (a : Int) : Prop := -2147483648 ≤ a ∧ a ≤ 2147483647
theorem zin_t {a : Int} (h : zin a) : (Int32.ofInt a).toInt = a := Int32.toInt_ofInt_of_le (by omega) (by omega)
theorem zi_lt {a b : Int} (ha : zin a) (hb : zin b) : Int32.ofInt a < Int32.ofInt b ↔ a < b := by rw [Int32.lt_iff_toInt_lt, zin_t ha, zin_t hb]
theorem zi_le {a b : Int} (ha : zin a) (hb : zin b) : Int32.ofInt a ≤ Int32.ofInt b ↔ a ≤ b := by rw [Int32.le_iff_toInt_le, zin_t ha, zin_t hb]
theorem zi_eq {a b : Int} (ha : zin a) (hb : zin b) : Int32.ofInt a = Int32.ofInt b ↔ a = b := by rw [← Int32.toInt_inj, zin_t ha, zin_t hb]
theorem zi_cl {a : Int} (ha : zin a) : (Int32.ofInt a).toNatClampNeg = a.toNat := by show (Int32.ofInt a).toInt.toNat = _; rw [zin_t ha]
theorem zi_0 : Int32.ofInt 0 = 0 := rfl
theorem zi_vp {a : Int} {n : Nat} (h0 : 0 ≤ a) (h1 : a < n) (hn : n < 2147483648) : vp_in (Int32.ofInt a) n := by
  have hz : zin a := ⟨by omega, by omega⟩
  rw [vp_in_iff, zin_t hz]
  exact ⟨h0, h1⟩
def zup (f : Int → Int) (i x : Int) : Int → Int := fun j => if j = i then x else f j
theorem zup_same (f : Int → Int) (i x : Int) : zup f i x i = x := by simp [zup]
theorem zup_ne (f : Int → Int) {i j : Int} (x : Int) (h : j ≠ i) : zup f i x j = f j := by simp [zup, h]
theorem zup_f (f : Int → Int) {i : Int} (x : Int) (h : 0 ≤ i) : upd (fun j : Nat => Int32.ofInt (f j)) i.toNat (Int32.ofInt x) = fun j : Nat => Int32.ofInt (zup f i x j) := by
  funext j
  simp only [upd, zup]
  by_cases hj : (j : Int) = i
  · rw [if_pos hj, if_pos (by omega)]
  · rw [if_neg hj, if_neg (by omega)]
/-- the local i -/
def zget : List (Nat × zV) → Nat → Option zV
  | [], _ => none
  | q :: l, i => match Nat.beq q.1 i with
    | true => some q.2
    | false => zget l i
theorem zget_at {ac ad : Nat → Nat} {ls : List (Nat × zV)} {i n : Nat} {v : zV} {lsA : Array Slot} (h : lv_has lsA n (zls ac ad ls)) (hg : zget ls i = some v) : lsA[i]? = some (.val (zc ac ad v)) := by
  have hm : ∀ l : List (Nat × zV), zget l i = some v → (i, v) ∈ l := by
    intro l
    induction l with
    | nil => intro h; cases h
    | cons q l ih =>
      intro h
      simp only [zget] at h
      cases hb : Nat.beq q.1 i with
      | true => rw [hb] at h; have e := Nat.eq_of_beq_eq_true hb; cases h; rw [← e]; exact List.mem_cons_self
      | false => rw [hb] at h; exact List.mem_cons_of_mem _ (ih h)
  exact h.2.2 (i, zc ac ad v) (List.mem_map.mpr ⟨(i, v), hm ls hg, rfl⟩)
def zcat (v : zV) : Nat := match v with
  | .inr (.inl _) => 2
  | _ => 1
theorem zcat_c (ac ad : Nat → Nat) (v : zV) : (zc ac ad v).category = zcat v := by
  rcases v with n | n | _ | k | k <;> rfl
def zput1 (ls : List (Nat × zV)) (i : Nat) (v : zV) : List (Nat × zV) := (i, v) :: ls.filter fun q => !(q.1 == i) && !(q.1 + 1 == i && zcat q.2 == 2)
def zput2 (ls : List (Nat × zV)) (i : Nat) (v : zV) : List (Nat × zV) := (i, v) :: ls.filter fun q => !(q.1 == i) && (!(q.1 == i + 1) && !(q.1 + 1 == i && zcat q.2 == 2))
theorem zput1_c (ac ad : Nat → Nat) (ls : List (Nat × zV)) (i : Nat) (v : zV) : (i, zc ac ad v) :: (zls ac ad ls).filter (fun q => !(q.1 == i) && !(q.1 + 1 == i && q.2.category == 2)) = zls ac ad (zput1 ls i v) := by
  simp only [zls, zput1, List.map_cons, List.filter_map]
  congr 2
  apply List.filter_congr
  intro q _
  simp only [Function.comp, zcat_c]
theorem zput2_c (ac ad : Nat → Nat) (ls : List (Nat × zV)) (i : Nat) (v : zV) : (i, zc ac ad v) :: (zls ac ad ls).filter (fun q => !(q.1 == i) && (!(q.1 == i + 1) && !(q.1 + 1 == i && q.2.category == 2))) = zls ac ad (zput2 ls i v) := by
  simp only [zls, zput2, List.map_cons, List.filter_map]
  congr 2
  apply List.filter_congr
  intro q _
  simp only [Function.comp, zcat_c]
section ZW
variable {Y : zY} {d mc ms n0 : Nat} {Post : zP → List zE → Prop} {pc pc' : Nat} {ls : List (Nat × zV)} {st : List zV} {w : List zE} {nc ns : Nat}
theorem Wa.eq {pc2 : Nat} {ls2 : List (Nat × zV)} {st2 : List zV} {w2 : List zE} (h : Wa Y d mc ms n0 Post pc2 ls2 st2 w2 nc ns) (e1 : pc2 = pc) (e2 : ls2 = ls) (e3 : st2 = st) (e4 : w2 = w) : Wa Y d mc ms n0 Post pc ls st w nc ns := by
  subst e1; subst e2; subst e3; subst e4; exact h
theorem zls_sub {lsA : Array Slot} {n : Nat} {l l' : List (Nat × Value)} (h : lv_has lsA n l) (hs : ∀ q ∈ l', q ∈ l) : lv_has lsA n l' := ⟨h.1, h.2.1, fun q hq => h.2.2 q (hs q hq)⟩
/-- fewer locals, by their places -/
theorem wa_sub {ls' : List (Nat × zV)} (ks : List Nat) (hk : ks.filterMap (fun k => ls[k]?) = ls') (k : Wa Y d mc ms n0 Post pc ls' st w nc ns) : Wa Y d mc ms n0 Post pc ls st w nc ns := by
  intro p l e R s m args below meth c G A ad0 Qm C F ad H locs lsA hag hst hl
  refine k p l e R s m args below meth c G A ad0 Qm C F ad H locs lsA hag hst (zls_sub hl ?_)
  intro q hq
  subst hk
  obtain ⟨x, hx, rfl⟩ := List.mem_map.mp hq
  obtain ⟨i, -, hi⟩ := List.mem_filterMap.mp hx
  exact List.mem_map.mpr ⟨x, List.mem_of_getElem? hi, rfl⟩
theorem wa_iload_n {q : Fin 4} {i : Nat} {x : Int} (hd : decode Y.2.1 pc = .ok (.iload_n q, 1)) (hp : pc + 1 = pc') (hi : (q : Nat) = i) (hg : zget ls i = some (zI x)) (k : Wa Y d mc ms n0 Post pc' ls (zI x :: st) w nc ns) : Wa Y d mc ms n0 Post pc ls st w nc ns := by
  subst hp
  intro p l e R s m args below meth c G A ad0 Qm C F ad H locs lsA hag hst hl
  have kk := k p l e R s m args below meth c G A ad0 Qm C F ad H locs lsA hag hst hl
  obtain ⟨-, -, hx, hb, -⟩ := C
  exact lv_iload_n hx hb hd hi (zget_at hl hg) kk
theorem wa_iload {i : Nat} {x : Int} (hd : decode Y.2.1 pc = .ok (.iload i, 2)) (hp : pc + 2 = pc') (hg : zget ls i = some (zI x)) (k : Wa Y d mc ms n0 Post pc' ls (zI x :: st) w nc ns) : Wa Y d mc ms n0 Post pc ls st w nc ns := by
  subst hp
  intro p l e R s m args below meth c G A ad0 Qm C F ad H locs lsA hag hst hl
  have kk := k p l e R s m args below meth c G A ad0 Qm C F ad H locs lsA hag hst hl
  obtain ⟨-, -, hx, hb, -⟩ := C
  exact lv_iload hx hb hd (zget_at hl hg) kk
theorem wa_aload_n {q : Fin 4} {i : Nat} {x : Option (Nat ⊕ Nat)} (hd : decode Y.2.1 pc = .ok (.aload_n q, 1)) (hp : pc + 1 = pc') (hi : (q : Nat) = i) (hg : zget ls i = some (.inr (.inr x))) (k : Wa Y d mc ms n0 Post pc' ls (.inr (.inr x) :: st) w nc ns) : Wa Y d mc ms n0 Post pc ls st w nc ns := by
  subst hp
  intro p l e R s m args below meth c G A ad0 Qm C F ad H locs lsA hag hst hl
  have kk := k p l e R s m args below meth c G A ad0 Qm C F ad H locs lsA hag hst hl
  obtain ⟨-, -, hx, hb, -⟩ := C
  have hg' := zget_at hl hg
  rcases x with _ | k9 | k9
  · exact lv_aload_nN hx hb hd hi hg' kk
  · exact lv_aload_n hx hb hd hi hg' kk
  · exact lv_aload_n hx hb hd hi hg' kk
theorem wa_aload {i : Nat} {x : Option (Nat ⊕ Nat)} (hd : decode Y.2.1 pc = .ok (.aload i, 2)) (hp : pc + 2 = pc') (hg : zget ls i = some (.inr (.inr x))) (k : Wa Y d mc ms n0 Post pc' ls (.inr (.inr x) :: st) w nc ns) : Wa Y d mc ms n0 Post pc ls st w nc ns := by
  subst hp
  intro p l e R s m args below meth c G A ad0 Qm C F ad H locs lsA hag hst hl
  have kk := k p l e R s m args below meth c G A ad0 Qm C F ad H locs lsA hag hst hl
  obtain ⟨-, -, hx, hb, -⟩ := C
  have hg' := zget_at hl hg
  rcases x with _ | k9 | k9
  · exact lv_aloadN hx hb hd hg' kk
  · exact lv_aload hx hb hd hg' kk
  · exact lv_aload hx hb hd hg' kk
theorem wa_lload_n {q : Fin 4} {i : Nat} {x : Int} (hd : decode Y.2.1 pc = .ok (.lload_n q, 1)) (hp : pc + 1 = pc') (hi : (q : Nat) = i) (hg : zget ls i = some (zJ x)) (k : Wa Y d mc ms n0 Post pc' ls (zJ x :: st) w nc ns) : Wa Y d mc ms n0 Post pc ls st w nc ns := by
  subst hp
  intro p l e R s m args below meth c G A ad0 Qm C F ad H locs lsA hag hst hl
  have kk := k p l e R s m args below meth c G A ad0 Qm C F ad H locs lsA hag hst hl
  obtain ⟨-, -, hx, hb, -⟩ := C
  exact lv_lload_n hx hb hd hi (zget_at hl hg) kk
theorem wa_istore_n {q : Fin 4} {i : Nat} {x : Int} {ls' : List (Nat × zV)} (hd : decode Y.2.1 pc = .ok (.istore_n q, 1)) (hp : pc + 1 = pc') (hi : (q : Nat) = i) (hn : i < Y.2.2.1) (hl9 : zput1 ls i (zI x) = ls') (k : Wa Y d mc ms n0 Post pc' ls' st w nc ns) : Wa Y d mc ms n0 Post pc ls (zI x :: st) w nc ns := by
  subst hl9
  subst hp
  intro p l e R s m args below meth c G A ad0 Qm C F ad H locs lsA hag hst hl
  have kk := fun lsA' hl' => k p l e R s m args below meth c G A ad0 Qm C F ad H locs lsA' hag hst hl'
  obtain ⟨-, -, hx, hb, -⟩ := C
  exact lv_istore_n hx hb hd hi hl hn (zput1_c G.2.2.1 ad ls i (zI x)) (fun lsA' hl' => kk lsA' hl')
theorem wa_istore {i : Nat} {x : Int} {ls' : List (Nat × zV)} (hd : decode Y.2.1 pc = .ok (.istore i, 2)) (hp : pc + 2 = pc') (hn : i < Y.2.2.1) (hl9 : zput1 ls i (zI x) = ls') (k : Wa Y d mc ms n0 Post pc' ls' st w nc ns) : Wa Y d mc ms n0 Post pc ls (zI x :: st) w nc ns := by
  subst hl9
  subst hp
  intro p l e R s m args below meth c G A ad0 Qm C F ad H locs lsA hag hst hl
  have kk := fun lsA' hl' => k p l e R s m args below meth c G A ad0 Qm C F ad H locs lsA' hag hst hl'
  obtain ⟨-, -, hx, hb, -⟩ := C
  exact lv_istore hx hb hd hl hn (zput1_c G.2.2.1 ad ls i (zI x)) (fun lsA' hl' => kk lsA' hl')
theorem wa_astore_n {q : Fin 4} {i : Nat} {x : Option (Nat ⊕ Nat)} {ls' : List (Nat × zV)} (hd : decode Y.2.1 pc = .ok (.astore_n q, 1)) (hp : pc + 1 = pc') (hi : (q : Nat) = i) (hn : i < Y.2.2.1) (hl9 : zput1 ls i (.inr (.inr x)) = ls') (k : Wa Y d mc ms n0 Post pc' ls' st w nc ns) : Wa Y d mc ms n0 Post pc ls (.inr (.inr x) :: st) w nc ns := by
  subst hl9
  subst hp
  intro p l e R s m args below meth c G A ad0 Qm C F ad H locs lsA hag hst hl
  have kk := fun lsA' hl' => k p l e R s m args below meth c G A ad0 Qm C F ad H locs lsA' hag hst hl'
  obtain ⟨-, -, hx, hb, -⟩ := C
  rcases x with _ | k9 | k9
  · exact lv_astore_nN hx hb hd hi hl hn (zput1_c G.2.2.1 ad ls i zN) (fun lsA' hl' => kk lsA' hl')
  · exact lv_astore_n hx hb hd hi hl hn (zput1_c G.2.2.1 ad ls i (zR k9)) (fun lsA' hl' => kk lsA' hl')
  · exact lv_astore_n hx hb hd hi hl hn (zput1_c G.2.2.1 ad ls i (zK k9)) (fun lsA' hl' => kk lsA' hl')
theorem wa_astore {i : Nat} {x : Option (Nat ⊕ Nat)} {ls' : List (Nat × zV)} (hd : decode Y.2.1 pc = .ok (.astore i, 2)) (hp : pc + 2 = pc') (hn : i < Y.2.2.1) (hl9 : zput1 ls i (.inr (.inr x)) = ls') (k : Wa Y d mc ms n0 Post pc' ls' st w nc ns) : Wa Y d mc ms n0 Post pc ls (.inr (.inr x) :: st) w nc ns := by
  subst hl9
  subst hp
  intro p l e R s m args below meth c G A ad0 Qm C F ad H locs lsA hag hst hl
  have kk := fun lsA' hl' => k p l e R s m args below meth c G A ad0 Qm C F ad H locs lsA' hag hst hl'
  obtain ⟨-, -, hx, hb, -⟩ := C
  rcases x with _ | k9 | k9
  · exact lv_astoreN hx hb hd hl hn (zput1_c G.2.2.1 ad ls i zN) (fun lsA' hl' => kk lsA' hl')
  · exact lv_astore hx hb hd hl hn (zput1_c G.2.2.1 ad ls i (zR k9)) (fun lsA' hl' => kk lsA' hl')
  · exact lv_astore hx hb hd hl hn (zput1_c G.2.2.1 ad ls i (zK k9)) (fun lsA' hl' => kk lsA' hl')
theorem wa_lstore_n {q : Fin 4} {i : Nat} {x : Int} {ls' : List (Nat × zV)} (hd : decode Y.2.1 pc = .ok (.lstore_n q, 1)) (hp : pc + 1 = pc') (hi : (q : Nat) = i) (hn : i + 1 < Y.2.2.1) (hl9 : zput2 ls i (zJ x) = ls') (k : Wa Y d mc ms n0 Post pc' ls' st w nc ns) : Wa Y d mc ms n0 Post pc ls (zJ x :: st) w nc ns := by
  subst hl9
  subst hp
  intro p l e R s m args below meth c G A ad0 Qm C F ad H locs lsA hag hst hl
  have kk := fun lsA' hl' => k p l e R s m args below meth c G A ad0 Qm C F ad H locs lsA' hag hst hl'
  obtain ⟨-, -, hx, hb, -⟩ := C
  exact lv_lstore_n hx hb hd hi hl hn (zput2_c G.2.2.1 ad ls i (zJ x)) (fun lsA' hl' => kk lsA' hl')
theorem wa_iinc {i : Nat} {n x : Int} {ls' : List (Nat × zV)} (hd : decode Y.2.1 pc = .ok (.iinc i n, 3)) (hp : pc + 3 = pc') (hg : zget ls i = some (zI x)) (hn : i < Y.2.2.1) (hl9 : zput1 ls i (zI (x + n)) = ls') (k : Wa Y d mc ms n0 Post pc' ls' st w nc ns) : Wa Y d mc ms n0 Post pc ls st w nc ns := by
  subst hl9
  subst hp
  intro p l e R s m args below meth c G A ad0 Qm C F ad H locs lsA hag hst hl
  have kk := fun lsA' hl' => k p l e R s m args below meth c G A ad0 Qm C F ad H locs lsA' hag hst hl'
  obtain ⟨-, -, hx, hb, -⟩ := C
  have hm : (i, zc G.2.2.1 ad (zI x)) ∈ (i, zc G.2.2.1 ad (zI x)) :: zls G.2.2.1 ad ls := List.mem_cons_self
  have hl2 : lv_has lsA Y.2.2.1 ((i, zc G.2.2.1 ad (zI x)) :: zls G.2.2.1 ad ls) := ⟨hl.1, hl.2.1, fun q hq => by
    rcases List.mem_cons.mp hq with h | h
    · rw [h]; exact zget_at hl hg
    · exact hl.2.2 q h⟩
  refine lv_iinc hx hb hd hl2 (k := 0) rfl (v := Int32.ofInt (x + n)) (by rw [Int32.ofInt_add]) hn rfl (fun lsA' hl' => kk lsA' (zls_sub hl' ?_))
  intro q hq
  rw [← zput1_c] at hq
  rcases List.mem_cons.mp hq with h | h
  · rw [h]; exact List.mem_cons_self
  · obtain ⟨h1, h2⟩ := List.mem_filter.mp h
    exact List.mem_cons_of_mem _ (List.mem_filter.mpr ⟨List.mem_cons_of_mem _ h1, h2⟩)
theorem wa_iconst {n : Int} (hd : decode Y.2.1 pc = .ok (.iconst n, 1)) (hp : pc + 1 = pc') (k : Wa Y d mc ms n0 Post pc' ls (zI n :: st) w nc ns) : Wa Y d mc ms n0 Post pc ls st w nc ns := by
  subst hp
  intro p l e R s m args below meth c G A ad0 Qm C F ad H locs lsA hag hst hl
  have kk := k p l e R s m args below meth c G A ad0 Qm C F ad H locs lsA hag hst hl
  obtain ⟨-, -, hx, hb, -⟩ := C
  exact lv_iconst hx hb hd rfl kk
theorem wa_bipush {n : Int} (hd : decode Y.2.1 pc = .ok (.bipush n, 2)) (hp : pc + 2 = pc') (hv : (Int8.ofInt n).toInt32 = Int32.ofInt n) (k : Wa Y d mc ms n0 Post pc' ls (zI n :: st) w nc ns) : Wa Y d mc ms n0 Post pc ls st w nc ns := by
  subst hp
  intro p l e R s m args below meth c G A ad0 Qm C F ad H locs lsA hag hst hl
  have kk := k p l e R s m args below meth c G A ad0 Qm C F ad H locs lsA hag hst hl
  obtain ⟨-, -, hx, hb, -⟩ := C
  exact lv_bipush hx hb hd hv kk
theorem wa_sipush {n : Int} (hd : decode Y.2.1 pc = .ok (.sipush n, 3)) (hp : pc + 3 = pc') (hv : (Int16.ofInt n).toInt32 = Int32.ofInt n) (k : Wa Y d mc ms n0 Post pc' ls (zI n :: st) w nc ns) : Wa Y d mc ms n0 Post pc ls st w nc ns := by
  subst hp
  intro p l e R s m args below meth c G A ad0 Qm C F ad H locs lsA hag hst hl
  have kk := k p l e R s m args below meth c G A ad0 Qm C F ad H locs lsA hag hst hl
  obtain ⟨-, -, hx, hb, -⟩ := C
  exact lv_sipush hx hb hd hv kk
theorem wa_null  (hd : decode Y.2.1 pc = .ok (.aconst_null, 1)) (hp : pc + 1 = pc') (k : Wa Y d mc ms n0 Post pc' ls (zN :: st) w nc ns) : Wa Y d mc ms n0 Post pc ls st w nc ns := by
  subst hp
  intro p l e R s m args below meth c G A ad0 Qm C F ad H locs lsA hag hst hl
  have kk := k p l e R s m args below meth c G A ad0 Qm C F ad H locs lsA hag hst hl
  obtain ⟨-, -, hx, hb, -⟩ := C
  exact lv_null hx hb hd kk
theorem wa_iadd {a b : Int} (hd : decode Y.2.1 pc = .ok (.iadd, 1)) (hp : pc + 1 = pc') (k : Wa Y d mc ms n0 Post pc' ls (zI (a + b) :: st) w nc ns) : Wa Y d mc ms n0 Post pc ls (zI b :: zI a :: st) w nc ns := by
  subst hp
  intro p l e R s m args below meth c G A ad0 Qm C F ad H locs lsA hag hst hl
  have kk := k p l e R s m args below meth c G A ad0 Qm C F ad H locs lsA hag hst hl
  obtain ⟨-, -, hx, hb, -⟩ := C
  refine lv_iadd hx hb hd ?_
  rw [← Int32.ofInt_add]
  exact kk
theorem wa_isub {a b : Int} (hd : decode Y.2.1 pc = .ok (.isub, 1)) (hp : pc + 1 = pc') (k : Wa Y d mc ms n0 Post pc' ls (zI (a - b) :: st) w nc ns) : Wa Y d mc ms n0 Post pc ls (zI b :: zI a :: st) w nc ns := by
  subst hp
  intro p l e R s m args below meth c G A ad0 Qm C F ad H locs lsA hag hst hl
  have kk := k p l e R s m args below meth c G A ad0 Qm C F ad H locs lsA hag hst hl
  obtain ⟨-, -, hx, hb, -⟩ := C
  refine lv_isub hx hb hd ?_
  rw [← Int32.ofInt_sub]
  exact kk
theorem wa_imul {a b : Int} (hd : decode Y.2.1 pc = .ok (.imul, 1)) (hp : pc + 1 = pc') (k : Wa Y d mc ms n0 Post pc' ls (zI (a * b) :: st) w nc ns) : Wa Y d mc ms n0 Post pc ls (zI b :: zI a :: st) w nc ns := by
  subst hp
  intro p l e R s m args below meth c G A ad0 Qm C F ad H locs lsA hag hst hl
  have kk := k p l e R s m args below meth c G A ad0 Qm C F ad H locs lsA hag hst hl
  obtain ⟨-, -, hx, hb, -⟩ := C
  refine lv_imul hx hb hd ?_
  rw [← Int32.ofInt_mul]
  exact kk
theorem wa_ineg {a : Int} (hd : decode Y.2.1 pc = .ok (.ineg, 1)) (hp : pc + 1 = pc') (k : Wa Y d mc ms n0 Post pc' ls (zI (-a) :: st) w nc ns) : Wa Y d mc ms n0 Post pc ls (zI a :: st) w nc ns := by
  subst hp
  intro p l e R s m args below meth c G A ad0 Qm C F ad H locs lsA hag hst hl
  have kk := k p l e R s m args below meth c G A ad0 Qm C F ad H locs lsA hag hst hl
  obtain ⟨-, -, hx, hb, -⟩ := C
  refine lv_ineg hx hb hd ?_
  rw [← Int32.ofInt_neg]
  exact kk
theorem wa_ladd {a b : Int} (hd : decode Y.2.1 pc = .ok (.ladd, 1)) (hp : pc + 1 = pc') (k : Wa Y d mc ms n0 Post pc' ls (zJ (a + b) :: st) w nc ns) : Wa Y d mc ms n0 Post pc ls (zJ b :: zJ a :: st) w nc ns := by
  subst hp
  intro p l e R s m args below meth c G A ad0 Qm C F ad H locs lsA hag hst hl
  have kk := k p l e R s m args below meth c G A ad0 Qm C F ad H locs lsA hag hst hl
  obtain ⟨-, -, hx, hb, -⟩ := C
  refine lv_ladd hx hb hd ?_
  rw [← Int64.ofInt_add]
  exact kk
theorem wa_lmul {a b : Int} (hd : decode Y.2.1 pc = .ok (.lmul, 1)) (hp : pc + 1 = pc') (k : Wa Y d mc ms n0 Post pc' ls (zJ (a * b) :: st) w nc ns) : Wa Y d mc ms n0 Post pc ls (zJ b :: zJ a :: st) w nc ns := by
  subst hp
  intro p l e R s m args below meth c G A ad0 Qm C F ad H locs lsA hag hst hl
  have kk := k p l e R s m args below meth c G A ad0 Qm C F ad H locs lsA hag hst hl
  obtain ⟨-, -, hx, hb, -⟩ := C
  refine lv_lmul hx hb hd ?_
  rw [← Int64.ofInt_mul]
  exact kk
theorem wa_i2l {a : Int} (hd : decode Y.2.1 pc = .ok (.i2l, 1)) (hp : pc + 1 = pc') (hz : zin a) (k : Wa Y d mc ms n0 Post pc' ls (zJ a :: st) w nc ns) : Wa Y d mc ms n0 Post pc ls (zI a :: st) w nc ns := by
  subst hp
  intro p l e R s m args below meth c G A ad0 Qm C F ad H locs lsA hag hst hl
  have kk := k p l e R s m args below meth c G A ad0 Qm C F ad H locs lsA hag hst hl
  obtain ⟨-, -, hx, hb, -⟩ := C
  exact lv_i2l hx hb hd (Int32.toInt64_ofInt (by have := hz.1; show (-2147483648 : Int) ≤ a; omega) (by have := hz.2; show a ≤ (2147483647 : Int); omega)) kk
theorem wa_dup {v : zV} (hd : decode Y.2.1 pc = .ok (.dup, 1)) (hp : pc + 1 = pc') (hv : zcat v = 1) (k : Wa Y d mc ms n0 Post pc' ls (v :: v :: st) w nc ns) : Wa Y d mc ms n0 Post pc ls (v :: st) w nc ns := by
  subst hp
  intro p l e R s m args below meth c G A ad0 Qm C F ad H locs lsA hag hst hl
  have kk := k p l e R s m args below meth c G A ad0 Qm C F ad H locs lsA hag hst hl
  obtain ⟨-, -, hx, hb, -⟩ := C
  exact lv_dup hx hb hd (by rw [zcat_c]; exact hv) kk
theorem wa_dup2 {v u : zV} (hd : decode Y.2.1 pc = .ok (.dup2, 1)) (hp : pc + 1 = pc') (hv : zcat v = 1) (hu : zcat u = 1) (k : Wa Y d mc ms n0 Post pc' ls (v :: u :: v :: u :: st) w nc ns) : Wa Y d mc ms n0 Post pc ls (v :: u :: st) w nc ns := by
  subst hp
  intro p l e R s m args below meth c G A ad0 Qm C F ad H locs lsA hag hst hl
  have kk := k p l e R s m args below meth c G A ad0 Qm C F ad H locs lsA hag hst hl
  obtain ⟨-, -, hx, hb, -⟩ := C
  exact lv_dup2_11 hx hb hd (by rw [zcat_c]; exact hv) (by rw [zcat_c]; exact hu) kk
theorem wa_pop {v : zV} (hd : decode Y.2.1 pc = .ok (.pop, 1)) (hp : pc + 1 = pc') (hv : zcat v = 1) (k : Wa Y d mc ms n0 Post pc' ls st w nc ns) : Wa Y d mc ms n0 Post pc ls (v :: st) w nc ns := by
  subst hp
  intro p l e R s m args below meth c G A ad0 Qm C F ad H locs lsA hag hst hl
  have kk := k p l e R s m args below meth c G A ad0 Qm C F ad H locs lsA hag hst hl
  obtain ⟨-, -, hx, hb, -⟩ := C
  exact lv_pop hx hb hd (by rw [zcat_c]; exact hv) kk
theorem wa_goto {off : Int} (hd : decode Y.2.1 pc = .ok (.goto off, 3)) (ht : (pc : Int) + off = (pc' : Int)) (k : Wa Y d mc ms n0 Post pc' ls st w nc ns) : Wa Y d mc ms n0 Post pc ls st w nc ns := by
  intro p l e R s m args below meth c G A ad0 Qm C F ad H locs lsA hag hst hl
  have kk := k p l e R s m args below meth c G A ad0 Qm C F ad H locs lsA hag hst hl
  obtain ⟨-, -, hx, hb, -⟩ := C
  exact lv_goto hx hb hd ht kk
theorem wa_icmp_lt {off : Int} {tgt : Nat} {a b : Int} (hd : decode Y.2.1 pc = .ok (.if_icmp .lt off, 3)) (ht : (pc : Int) + off = (tgt : Int)) (hp : pc + 3 = pc') (ha : zin a) (hb9 : zin b) (kt : a < b → Wa Y d mc ms n0 Post tgt ls st w nc ns) (kf : ¬ (a < b) → Wa Y d mc ms n0 Post pc' ls st w nc ns) : Wa Y d mc ms n0 Post pc ls (zI b :: zI a :: st) w nc ns := by
  subst hp
  intro p l e R s m args below meth c G A ad0 Qm C F ad H locs lsA hag hst hl
  have kkt := fun h => kt h p l e R s m args below meth c G A ad0 Qm C F ad H locs lsA hag hst hl
  have kkf := fun h => kf h p l e R s m args below meth c G A ad0 Qm C F ad H locs lsA hag hst hl
  obtain ⟨-, -, hx, hb, -⟩ := C
  exact lv_icmp_lt hx hb hd ht (fun h => kkt ((zi_lt ha hb9).mp h)) (fun h => kkf (fun h2 => h ((zi_lt ha hb9).mpr h2)))
theorem wa_icmp_ge {off : Int} {tgt : Nat} {a b : Int} (hd : decode Y.2.1 pc = .ok (.if_icmp .ge off, 3)) (ht : (pc : Int) + off = (tgt : Int)) (hp : pc + 3 = pc') (ha : zin a) (hb9 : zin b) (kt : b ≤ a → Wa Y d mc ms n0 Post tgt ls st w nc ns) (kf : ¬ (b ≤ a) → Wa Y d mc ms n0 Post pc' ls st w nc ns) : Wa Y d mc ms n0 Post pc ls (zI b :: zI a :: st) w nc ns := by
  subst hp
  intro p l e R s m args below meth c G A ad0 Qm C F ad H locs lsA hag hst hl
  have kkt := fun h => kt h p l e R s m args below meth c G A ad0 Qm C F ad H locs lsA hag hst hl
  have kkf := fun h => kf h p l e R s m args below meth c G A ad0 Qm C F ad H locs lsA hag hst hl
  obtain ⟨-, -, hx, hb, -⟩ := C
  exact lv_icmp_ge hx hb hd ht (fun h => kkt ((zi_le hb9 ha).mp h)) (fun h => kkf (fun h2 => h ((zi_le hb9 ha).mpr h2)))
theorem wa_icmp_gt {off : Int} {tgt : Nat} {a b : Int} (hd : decode Y.2.1 pc = .ok (.if_icmp .gt off, 3)) (ht : (pc : Int) + off = (tgt : Int)) (hp : pc + 3 = pc') (ha : zin a) (hb9 : zin b) (kt : b < a → Wa Y d mc ms n0 Post tgt ls st w nc ns) (kf : ¬ (b < a) → Wa Y d mc ms n0 Post pc' ls st w nc ns) : Wa Y d mc ms n0 Post pc ls (zI b :: zI a :: st) w nc ns := by
  subst hp
  intro p l e R s m args below meth c G A ad0 Qm C F ad H locs lsA hag hst hl
  have kkt := fun h => kt h p l e R s m args below meth c G A ad0 Qm C F ad H locs lsA hag hst hl
  have kkf := fun h => kf h p l e R s m args below meth c G A ad0 Qm C F ad H locs lsA hag hst hl
  obtain ⟨-, -, hx, hb, -⟩ := C
  exact lv_icmp_gt hx hb hd ht (fun h => kkt ((zi_lt hb9 ha).mp h)) (fun h => kkf (fun h2 => h ((zi_lt hb9 ha).mpr h2)))
theorem wa_icmp_le {off : Int} {tgt : Nat} {a b : Int} (hd : decode Y.2.1 pc = .ok (.if_icmp .le off, 3)) (ht : (pc : Int) + off = (tgt : Int)) (hp : pc + 3 = pc') (ha : zin a) (hb9 : zin b) (kt : a ≤ b → Wa Y d mc ms n0 Post tgt ls st w nc ns) (kf : ¬ (a ≤ b) → Wa Y d mc ms n0 Post pc' ls st w nc ns) : Wa Y d mc ms n0 Post pc ls (zI b :: zI a :: st) w nc ns := by
  subst hp
  intro p l e R s m args below meth c G A ad0 Qm C F ad H locs lsA hag hst hl
  have kkt := fun h => kt h p l e R s m args below meth c G A ad0 Qm C F ad H locs lsA hag hst hl
  have kkf := fun h => kf h p l e R s m args below meth c G A ad0 Qm C F ad H locs lsA hag hst hl
  obtain ⟨-, -, hx, hb, -⟩ := C
  exact lv_icmp_le hx hb hd ht (fun h => kkt ((zi_le ha hb9).mp h)) (fun h => kkf (fun h2 => h ((zi_le ha hb9).mpr h2)))
theorem wa_icmp_eq {off : Int} {tgt : Nat} {a b : Int} (hd : decode Y.2.1 pc = .ok (.if_icmp .eq off, 3)) (ht : (pc : Int) + off = (tgt : Int)) (hp : pc + 3 = pc') (ha : zin a) (hb9 : zin b) (kt : a = b → Wa Y d mc ms n0 Post tgt ls st w nc ns) (kf : ¬ (a = b) → Wa Y d mc ms n0 Post pc' ls st w nc ns) : Wa Y d mc ms n0 Post pc ls (zI b :: zI a :: st) w nc ns := by
  subst hp
  intro p l e R s m args below meth c G A ad0 Qm C F ad H locs lsA hag hst hl
  have kkt := fun h => kt h p l e R s m args below meth c G A ad0 Qm C F ad H locs lsA hag hst hl
  have kkf := fun h => kf h p l e R s m args below meth c G A ad0 Qm C F ad H locs lsA hag hst hl
  obtain ⟨-, -, hx, hb, -⟩ := C
  exact lv_icmp_eq hx hb hd ht (fun h => kkt ((zi_eq ha hb9).mp h)) (fun h => kkf (fun h2 => h ((zi_eq ha hb9).mpr h2)))
theorem wa_icmp_ne {off : Int} {tgt : Nat} {a b : Int} (hd : decode Y.2.1 pc = .ok (.if_icmp .ne off, 3)) (ht : (pc : Int) + off = (tgt : Int)) (hp : pc + 3 = pc') (ha : zin a) (hb9 : zin b) (kt : ¬ a = b → Wa Y d mc ms n0 Post tgt ls st w nc ns) (kf : a = b → Wa Y d mc ms n0 Post pc' ls st w nc ns) : Wa Y d mc ms n0 Post pc ls (zI b :: zI a :: st) w nc ns := by
  subst hp
  intro p l e R s m args below meth c G A ad0 Qm C F ad H locs lsA hag hst hl
  have kkt := fun h => kt h p l e R s m args below meth c G A ad0 Qm C F ad H locs lsA hag hst hl
  have kkf := fun h => kf h p l e R s m args below meth c G A ad0 Qm C F ad H locs lsA hag hst hl
  obtain ⟨-, -, hx, hb, -⟩ := C
  exact lv_icmp_ne hx hb hd ht (fun h => kkt (fun h2 => h ((zi_eq ha hb9).mpr h2))) (fun h => kkf ((zi_eq ha hb9).mp h))
theorem wa_if_lt {off : Int} {tgt : Nat} {a : Int} (hd : decode Y.2.1 pc = .ok (.ifCond .lt off, 3)) (ht : (pc : Int) + off = (tgt : Int)) (hp : pc + 3 = pc') (ha : zin a) (kt : a < 0 → Wa Y d mc ms n0 Post tgt ls st w nc ns) (kf : ¬ (a < 0) → Wa Y d mc ms n0 Post pc' ls st w nc ns) : Wa Y d mc ms n0 Post pc ls (zI a :: st) w nc ns := by
  subst hp
  intro p l e R s m args below meth c G A ad0 Qm C F ad H locs lsA hag hst hl
  have kkt := fun h => kt h p l e R s m args below meth c G A ad0 Qm C F ad H locs lsA hag hst hl
  have kkf := fun h => kf h p l e R s m args below meth c G A ad0 Qm C F ad H locs lsA hag hst hl
  obtain ⟨-, -, hx, hb, -⟩ := C
  have z0 : zin 0 := ⟨by omega, by omega⟩
  exact lv_if_lt hx hb hd ht (fun h => kkt ((zi_lt ha z0).mp h)) (fun h => kkf (fun h2 => h ((zi_lt ha z0).mpr h2)))
theorem wa_if_ge {off : Int} {tgt : Nat} {a : Int} (hd : decode Y.2.1 pc = .ok (.ifCond .ge off, 3)) (ht : (pc : Int) + off = (tgt : Int)) (hp : pc + 3 = pc') (ha : zin a) (kt : 0 ≤ a → Wa Y d mc ms n0 Post tgt ls st w nc ns) (kf : ¬ (0 ≤ a) → Wa Y d mc ms n0 Post pc' ls st w nc ns) : Wa Y d mc ms n0 Post pc ls (zI a :: st) w nc ns := by
  subst hp
  intro p l e R s m args below meth c G A ad0 Qm C F ad H locs lsA hag hst hl
  have kkt := fun h => kt h p l e R s m args below meth c G A ad0 Qm C F ad H locs lsA hag hst hl
  have kkf := fun h => kf h p l e R s m args below meth c G A ad0 Qm C F ad H locs lsA hag hst hl
  obtain ⟨-, -, hx, hb, -⟩ := C
  have z0 : zin 0 := ⟨by omega, by omega⟩
  exact lv_if_ge hx hb hd ht (fun h => kkt ((zi_le z0 ha).mp h)) (fun h => kkf (fun h2 => h ((zi_le z0 ha).mpr h2)))
theorem wa_if_gt {off : Int} {tgt : Nat} {a : Int} (hd : decode Y.2.1 pc = .ok (.ifCond .gt off, 3)) (ht : (pc : Int) + off = (tgt : Int)) (hp : pc + 3 = pc') (ha : zin a) (kt : 0 < a → Wa Y d mc ms n0 Post tgt ls st w nc ns) (kf : ¬ (0 < a) → Wa Y d mc ms n0 Post pc' ls st w nc ns) : Wa Y d mc ms n0 Post pc ls (zI a :: st) w nc ns := by
  subst hp
  intro p l e R s m args below meth c G A ad0 Qm C F ad H locs lsA hag hst hl
  have kkt := fun h => kt h p l e R s m args below meth c G A ad0 Qm C F ad H locs lsA hag hst hl
  have kkf := fun h => kf h p l e R s m args below meth c G A ad0 Qm C F ad H locs lsA hag hst hl
  obtain ⟨-, -, hx, hb, -⟩ := C
  have z0 : zin 0 := ⟨by omega, by omega⟩
  exact lv_if_gt hx hb hd ht (fun h => kkt ((zi_lt z0 ha).mp h)) (fun h => kkf (fun h2 => h ((zi_lt z0 ha).mpr h2)))
theorem wa_if_le {off : Int} {tgt : Nat} {a : Int} (hd : decode Y.2.1 pc = .ok (.ifCond .le off, 3)) (ht : (pc : Int) + off = (tgt : Int)) (hp : pc + 3 = pc') (ha : zin a) (kt : a ≤ 0 → Wa Y d mc ms n0 Post tgt ls st w nc ns) (kf : ¬ (a ≤ 0) → Wa Y d mc ms n0 Post pc' ls st w nc ns) : Wa Y d mc ms n0 Post pc ls (zI a :: st) w nc ns := by
  subst hp
  intro p l e R s m args below meth c G A ad0 Qm C F ad H locs lsA hag hst hl
  have kkt := fun h => kt h p l e R s m args below meth c G A ad0 Qm C F ad H locs lsA hag hst hl
  have kkf := fun h => kf h p l e R s m args below meth c G A ad0 Qm C F ad H locs lsA hag hst hl
  obtain ⟨-, -, hx, hb, -⟩ := C
  have z0 : zin 0 := ⟨by omega, by omega⟩
  exact lv_if_le hx hb hd ht (fun h => kkt ((zi_le ha z0).mp h)) (fun h => kkf (fun h2 => h ((zi_le ha z0).mpr h2)))
theorem wa_if_eq {off : Int} {tgt : Nat} {a : Int} (hd : decode Y.2.1 pc = .ok (.ifCond .eq off, 3)) (ht : (pc : Int) + off = (tgt : Int)) (hp : pc + 3 = pc') (ha : zin a) (kt : a = 0 → Wa Y d mc ms n0 Post tgt ls st w nc ns) (kf : ¬ (a = 0) → Wa Y d mc ms n0 Post pc' ls st w nc ns) : Wa Y d mc ms n0 Post pc ls (zI a :: st) w nc ns := by
  subst hp
  intro p l e R s m args below meth c G A ad0 Qm C F ad H locs lsA hag hst hl
  have kkt := fun h => kt h p l e R s m args below meth c G A ad0 Qm C F ad H locs lsA hag hst hl
  have kkf := fun h => kf h p l e R s m args below meth c G A ad0 Qm C F ad H locs lsA hag hst hl
  obtain ⟨-, -, hx, hb, -⟩ := C
  have z0 : zin 0 := ⟨by omega, by omega⟩
  exact lv_if_eq hx hb hd ht (fun h => kkt ((zi_eq ha z0).mp h)) (fun h => kkf (fun h2 => h ((zi_eq ha z0).mpr h2)))
theorem wa_if_ne {off : Int} {tgt : Nat} {a : Int} (hd : decode Y.2.1 pc = .ok (.ifCond .ne off, 3)) (ht : (pc : Int) + off = (tgt : Int)) (hp : pc + 3 = pc') (ha : zin a) (kt : ¬ a = 0 → Wa Y d mc ms n0 Post tgt ls st w nc ns) (kf : a = 0 → Wa Y d mc ms n0 Post pc' ls st w nc ns) : Wa Y d mc ms n0 Post pc ls (zI a :: st) w nc ns := by
  subst hp
  intro p l e R s m args below meth c G A ad0 Qm C F ad H locs lsA hag hst hl
  have kkt := fun h => kt h p l e R s m args below meth c G A ad0 Qm C F ad H locs lsA hag hst hl
  have kkf := fun h => kf h p l e R s m args below meth c G A ad0 Qm C F ad H locs lsA hag hst hl
  obtain ⟨-, -, hx, hb, -⟩ := C
  have z0 : zin 0 := ⟨by omega, by omega⟩
  exact lv_if_ne hx hb hd ht (fun h => kkt (fun h2 => h ((zi_eq ha z0).mpr h2))) (fun h => kkf ((zi_eq ha z0).mp h))
theorem wa_ifnull {off : Int} {tgt : Nat} {x : Option (Nat ⊕ Nat)} (hd : decode Y.2.1 pc = .ok (.ifnull off, 3)) (ht : (pc : Int) + off = (tgt : Int)) (hp : pc + 3 = pc') (kt : x = none → Wa Y d mc ms n0 Post tgt ls st w nc ns) (kf : ¬ x = none → Wa Y d mc ms n0 Post pc' ls st w nc ns) : Wa Y d mc ms n0 Post pc ls (.inr (.inr x) :: st) w nc ns := by
  subst hp
  intro p l e R s m args below meth c G A ad0 Qm C F ad H locs lsA hag hst hl
  have kkt := fun h => kt h p l e R s m args below meth c G A ad0 Qm C F ad H locs lsA hag hst hl
  have kkf := fun h => kf h p l e R s m args below meth c G A ad0 Qm C F ad H locs lsA hag hst hl
  obtain ⟨-, -, hx, hb, -⟩ := C
  rcases x with _ | k9 | k9
  · exact lv_ifnullN hx hb hd ht (kkt rfl)
  · exact lv_ifnull hx hb hd (kkf (fun h => nomatch h))
  · exact lv_ifnull hx hb hd (kkf (fun h => nomatch h))
theorem wa_ifnonnull {off : Int} {tgt : Nat} {x : Option (Nat ⊕ Nat)} (hd : decode Y.2.1 pc = .ok (.ifnonnull off, 3)) (ht : (pc : Int) + off = (tgt : Int)) (hp : pc + 3 = pc') (kt : ¬ x = none → Wa Y d mc ms n0 Post tgt ls st w nc ns) (kf : x = none → Wa Y d mc ms n0 Post pc' ls st w nc ns) : Wa Y d mc ms n0 Post pc ls (.inr (.inr x) :: st) w nc ns := by
  subst hp
  intro p l e R s m args below meth c G A ad0 Qm C F ad H locs lsA hag hst hl
  have kkt := fun h => kt h p l e R s m args below meth c G A ad0 Qm C F ad H locs lsA hag hst hl
  have kkf := fun h => kf h p l e R s m args below meth c G A ad0 Qm C F ad H locs lsA hag hst hl
  obtain ⟨-, -, hx, hb, -⟩ := C
  rcases x with _ | k9 | k9
  · exact lv_ifnonnullN hx hb hd (kkf rfl)
  · exact lv_ifnonnull hx hb hd ht (kkt (fun h => nomatch h))
  · exact lv_ifnonnull hx hb hd ht (kkt (fun h => nomatch h))
end ZW
end
section
/-! THE LAYER, 2: fields, arrays, constants, new cells, answers, throws -/
def zCl (ci : Nat) (C : String) (T : u_T) (N : Nat) (ty : Nat → FieldType) : Prop :=
  vwCl[ci]? = some (C, T, N) ∧ (∀ w ∈ u_ws C T N, w ∈ lw_tbl ∧ (goodWord w || zt_k w) = true) ∧ (∀ k, k < N → parseFieldDescriptor (T k).2.2.1 = some (ty k)) ∧ (∀ a, a < N → ∀ b, b < N → a ≠ b → (T a).2.1 ≠ (T b).2.1) ∧ (∀ k, k < N → (T k).1 = C) ∧ Cond.instantiable C N ∈ lw_tbl ∧ Cond.initialized C ∈ lw_tbl
theorem zgood_c (w : Cond) (h : goodWord w = true) : (goodWord w || zt_k w) = true := by rw [h]; rfl
theorem zgood_k (w : Cond) (h : zt_k w = true) : (goodWord w || zt_k w) = true := by rw [h, Bool.or_true]
def zfit (ty : FieldType) (v : zV) : Prop := match ty, v with
  | .int, .inl _ => True
  | .boolean, .inl n => n = 0 ∨ n = 1
  | .object _, .inr (.inr _) => True
  | .array _, .inr (.inr _) => True
  | _, _ => False
theorem zfit_n {ty : FieldType} {v : zV} (h : zfit ty v) (ac ad : Nat → Nat) : narrow ty (zc ac ad v) = zc ac ad v ∧ fits ty (zc ac ad v) = true := by
  rcases v with n | n | _ | k | k <;> cases ty <;> simp only [zfit] at h <;> first | exact ⟨rfl, rfl⟩ | (rcases h with rfl | rfl <;> exact ⟨rfl, rfl⟩)
section ZX
variable {Y : zY} {d mc ms n0 : Nat} {Post : zP → List zE → Prop} {pc pc' : Nat} {ls : List (Nat × zV)} {st : List zV} {w : List zE} {nc ns : Nat}
theorem Wa.wW {Y : zY} {d mc ms n0 : Nat} {Post : zP → List zE → Prop} {pc : Nat} {ls : List (Nat × zV)} {st : List zV} {w : List zE} {nc ns : Nat} (k : Wa Y d mc ms n0 Post pc ls st w nc ns) {p : Program} {l : Launch} {e : Env} {R : Room} {s : State} {m : MethodId} {args : Array Value} {below : List Frame} {meth : Method} {c : Code} {G : zG} {A : Nat → Prop} {ad0 : Nat → Nat} {Qm : State → Prop}
    (C : zCx Y d mc ms p l R s m meth c G A) (F : zFin Y mc ms n0 Post p l e R s m args below meth c G A ad0 Qm) {ad : Nat → Nat} {H : Heap} {locs : List Loc} {lsA : Array Slot} (hag : n0 ≤ w.length ∧ zAg n0 w.length ad ad0) {W9 : va_W} (hW : zw G ad w = W9) (h : va_P G.1 vwCl W9 H ∧ va_D A W9 ∧ va_S A s.heap H locs) (hl : lv_has lsA Y.2.2.1 (zls G.2.2.1 ad ls)) : W p l e R s m args below meth c H locs nc ns Qm (F0 m pc lsA (st.map (zc G.2.2.1 ad))) := by
  subst hW
  exact k p l e R s m args below meth c G A ad0 Qm C F ad H locs lsA hag h hl
theorem wa_getfield {k idx ci j N : Nat} {fs : List zV} {v : zV} {C : String} {T : u_T} {ty : Nat → FieldType} (hC : zCl ci C T N ty) (hlink : Cond.fieldLink Y.1.cls idx C (T j).2.1 (T j).2.2.1 ∈ lw_tbl) (hd : decode Y.2.1 pc = .ok (.getfield idx, 3)) (hp : pc + 3 = pc') (hj : j < N) (he : w[k]? = some (zO ci fs)) (hv : fs[j]? = some v) (k9 : Wa Y d mc ms n0 Post pc' ls (v :: st) w nc ns) : Wa Y d mc ms n0 Post pc ls (zR k :: st) w nc ns := by
  subst hp
  intro p l e R s m args below meth c G A ad0 Qm C9 F ad H locs lsA hag hst hl
  have kk := k9 p l e R s m args below meth c G A ad0 Qm C9 F ad H locs lsA hag hst hl
  obtain ⟨hfl, hR, hx, hb, hml, hr, hown, hlk, hnm, htb, hT, hE, hA⟩ := id C9
  obtain ⟨hP, hD, hS⟩ := id hst
  refine va_get (Ts := u_ws C T N) hx hb (fun w9 h9 => hT.at (hC.2.1 w9 h9).1 (hC.2.1 w9 h9).2 _) (fun _ h9 => h9) hown hE.1.1 hP k (zw_get he) hC.1 j hj (hT.at hlink (zgood_c _ rfl) _) (by rw [hC.2.2.2.2.1 j hj]; exact fun _ h9 => h9) (v := zc G.2.2.1 ad v) (by rw [List.getElem?_map, hv]; rfl) hd ?_
  exact kk
theorem wa_putfield {k idx ci j N : Nat} {fs : List zV} {v : zV} {w' : List zE} {C : String} {T : u_T} {ty : Nat → FieldType} (hC : zCl ci C T N ty) (hlink : Cond.fieldLink Y.1.cls idx C (T j).2.1 (T j).2.2.1 ∈ lw_tbl) (hd : decode Y.2.1 pc = .ok (.putfield idx, 3)) (hp : pc + 3 = pc') (hj : j < N) (hfin : (T j).2.2.2 = false) (he : w[k]? = some (zO ci fs)) (hl9 : j < fs.length) (hv : zfit (ty j) v) (hw : w.set k (zO ci (fs.set j v)) = w') (k9 : Wa Y d mc ms n0 Post pc' ls st w' nc ns) : Wa Y d mc ms n0 Post pc ls (v :: zR k :: st) w nc ns := by
  subst hw
  subst hp
  intro p l e R s m args below meth c G A ad0 Qm C9 F ad H locs lsA hag hst hl
  obtain ⟨hfl, hR, hx, hb, hml, hr, hown, hlk, hnm, htb, hT, hE, hA⟩ := id C9
  obtain ⟨hP, hD, hS⟩ := id hst
  refine va_put (Ts := u_ws C T N) hx hb (fun w9 h9 => hT.at (hC.2.1 w9 h9).1 (hC.2.1 w9 h9).2 _) (fun _ h9 => h9) ty hC.2.2.1 hC.2.2.2.1 hown hE.1.1 hP hD hS k (zw_get he) hC.1 j hj (hT.at hlink (zgood_c _ rfl) _) (by rw [hC.2.2.2.2.1 j hj]; exact fun _ h9 => h9) hfin (v := zc G.2.2.1 ad v) (hC.2.2.1 j hj) (zfit_n hv _ _).1 (zfit_n hv _ _).2 (by rw [List.length_map]; exact hl9) hd (fun H1 locs1 hP1 hD1 hS1 => ?_)
  refine Wa.wW k9 C9 F (by rw [List.length_set]; exact hag) ?_ ⟨hP1, hD1, hS1⟩ hl
  rw [zw_set]
  simp only [ze, List.map_set]
theorem wa_putfieldF {k idx ci j N : Nat} {fs : List zV} {v : zV} {w' : List zE} {C : String} {T : u_T} {ty : Nat → FieldType} (hC : zCl ci C T N ty) (hlink : Cond.fieldLink Y.1.cls idx C (T j).2.1 (T j).2.2.1 ∈ lw_tbl) (hd : decode Y.2.1 pc = .ok (.putfield idx, 3)) (hp : pc + 3 = pc') (hj : j < N) (hfin : (T j).2.2.2 = true) (hini : Y.1.name = "<init>") (hC2 : C = Y.1.cls) (he : w[k]? = some (zO ci fs)) (hl9 : j < fs.length) (hv : zfit (ty j) v) (hw : w.set k (zO ci (fs.set j v)) = w') (k9 : Wa Y d mc ms n0 Post pc' ls st w' nc ns) : Wa Y d mc ms n0 Post pc ls (v :: zR k :: st) w nc ns := by
  subst hw
  subst hp
  intro p l e R s m args below meth c G A ad0 Qm C9 F ad H locs lsA hag hst hl
  obtain ⟨hfl, hR, hx, hb, hml, hr, hown, hlk, hnm, htb, hT, hE, hA⟩ := id C9
  obtain ⟨hP, hD, hS⟩ := id hst
  refine va_putF (Ts := u_ws C T N) hx hb (fun w9 h9 => hT.at (hC.2.1 w9 h9).1 (hC.2.1 w9 h9).2 _) (fun _ h9 => h9) ty hC.2.2.1 hC.2.2.2.1 hown hE.1.1 hP hD hS k (zw_get he) hC.1 j hj (hT.at hlink (zgood_c _ rfl) _) (by rw [hC.2.2.2.2.1 j hj]; exact fun _ h9 => h9) hfin (hnm.trans hini) ((hC.2.2.2.2.1 j hj).trans hC2) (v := zc G.2.2.1 ad v) (hC.2.2.1 j hj) (zfit_n hv _ _).1 (zfit_n hv _ _).2 (by rw [List.length_map]; exact hl9) hd (fun H1 locs1 hP1 hD1 hS1 => ?_)
  refine Wa.wW k9 C9 F (by rw [List.length_set]; exact hag) ?_ ⟨hP1, hD1, hS1⟩ hl
  rw [zw_set]
  simp only [ze, List.map_set]
theorem wa_getfieldN {k idx ci j N : Nat} {fs : List zV} {v : zV} {C : String} {T : u_T} {ty : Nat → FieldType} {host : String} (hC : zCl ci C T N ty) (hlink : Cond.fieldLinkNest Y.1.cls idx C (T j).2.1 (T j).2.2.1 host ∈ lw_tbl) (hd : decode Y.2.1 pc = .ok (.getfield idx, 3)) (hp : pc + 3 = pc') (hj : j < N) (he : w[k]? = some (zO ci fs)) (hv : fs[j]? = some v) (k9 : Wa Y d mc ms n0 Post pc' ls (v :: st) w nc ns) : Wa Y d mc ms n0 Post pc ls (zR k :: st) w nc ns := by
  subst hp
  intro p l e R s m args below meth c G A ad0 Qm C9 F ad H locs lsA hag hst hl
  have kk := k9 p l e R s m args below meth c G A ad0 Qm C9 F ad H locs lsA hag hst hl
  obtain ⟨hfl, hR, hx, hb, hml, hr, hown, hlk, hnm, htb, hT, hE, hA⟩ := id C9
  obtain ⟨hP, hD, hS⟩ := id hst
  refine va_getN (Ts := u_ws C T N) hx hb (fun w9 h9 => hT.at (hC.2.1 w9 h9).1 (hC.2.1 w9 h9).2 _) (fun _ h9 => h9) hown hE.1.1 hP k (zw_get he) hC.1 j hj (hT.at hlink (zgood_k _ rfl) _) (by rw [hC.2.2.2.2.1 j hj]; exact fun _ h9 => h9) (v := zc G.2.2.1 ad v) (by rw [List.getElem?_map, hv]; rfl) hd ?_
  exact kk
theorem wa_putfieldN {k idx ci j N : Nat} {fs : List zV} {v : zV} {w' : List zE} {C : String} {T : u_T} {ty : Nat → FieldType} {host : String} (hC : zCl ci C T N ty) (hlink : Cond.fieldLinkNest Y.1.cls idx C (T j).2.1 (T j).2.2.1 host ∈ lw_tbl) (hd : decode Y.2.1 pc = .ok (.putfield idx, 3)) (hp : pc + 3 = pc') (hj : j < N) (hfin : (T j).2.2.2 = false) (he : w[k]? = some (zO ci fs)) (hl9 : j < fs.length) (hv : zfit (ty j) v) (hw : w.set k (zO ci (fs.set j v)) = w') (k9 : Wa Y d mc ms n0 Post pc' ls st w' nc ns) : Wa Y d mc ms n0 Post pc ls (v :: zR k :: st) w nc ns := by
  subst hw
  subst hp
  intro p l e R s m args below meth c G A ad0 Qm C9 F ad H locs lsA hag hst hl
  obtain ⟨hfl, hR, hx, hb, hml, hr, hown, hlk, hnm, htb, hT, hE, hA⟩ := id C9
  obtain ⟨hP, hD, hS⟩ := id hst
  refine va_putN (Ts := u_ws C T N) hx hb (fun w9 h9 => hT.at (hC.2.1 w9 h9).1 (hC.2.1 w9 h9).2 _) (fun _ h9 => h9) ty hC.2.2.1 hC.2.2.2.1 hown hE.1.1 hP hD hS k (zw_get he) hC.1 j hj (hT.at hlink (zgood_k _ rfl) _) (by rw [hC.2.2.2.2.1 j hj]; exact fun _ h9 => h9) hfin (v := zc G.2.2.1 ad v) (hC.2.2.1 j hj) (zfit_n hv _ _).1 (zfit_n hv _ _).2 (by rw [List.length_map]; exact hl9) hd (fun H1 locs1 hP1 hD1 hS1 => ?_)
  refine Wa.wW k9 C9 F (by rw [List.length_set]; exact hag) ?_ ⟨hP1, hD1, hS1⟩ hl
  rw [zw_set]
  simp only [ze, List.map_set]
theorem wa_alen {k t n : Nat} {f : Int → Int} (hd : decode Y.2.1 pc = .ok (.arraylength, 1)) (hp : pc + 1 = pc') (he : w[k]? = some (zA t n f)) (ht : t < 3) (k9 : Wa Y d mc ms n0 Post pc' ls (zI n :: st) w nc ns) : Wa Y d mc ms n0 Post pc ls (zR k :: st) w nc ns := by
  subst hp
  intro p l e R s m args below meth c G A ad0 Qm C9 F ad H locs lsA hag hst hl
  obtain ⟨hfl, hR, hx, hb, hml, hr, hown, hlk, hnm, htb, hT, hE, hA⟩ := id C9
  obtain ⟨hP, hD, hS⟩ := id hst
  have kk := k9 p l e R s m args below meth c G A ad0 Qm C9 F ad H locs lsA hag hst hl
  have hv : Int32.ofNat n = Int32.ofInt (n : Int) := Int32.ofInt_eq_ofNat.symm
  rcases (show t = 0 ∨ t = 1 ∨ t = 2 by omega) with rfl | rfl | rfl
  · exact va_alen hx hb hE.1.1 hP k 0 (zw_get he) (ty := .int) rfl hv hd kk
  · exact va_alen hx hb hE.1.1 hP k 1 (zw_get he) (ty := .char) rfl hv hd kk
  · exact va_alen hx hb hE.1.1 hP k 2 (zw_get he) (ty := .long) rfl hv hd kk
theorem wa_alenQ {k n : Nat} {f : Nat → Option Nat} (hd : decode Y.2.1 pc = .ok (.arraylength, 1)) (hp : pc + 1 = pc') (he : w[k]? = some (zQ n f)) (k9 : Wa Y d mc ms n0 Post pc' ls (zI n :: st) w nc ns) : Wa Y d mc ms n0 Post pc ls (zR k :: st) w nc ns := by
  subst hp
  intro p l e R s m args below meth c G A ad0 Qm C9 F ad H locs lsA hag hst hl
  obtain ⟨hfl, hR, hx, hb, hml, hr, hown, hlk, hnm, htb, hT, hE, hA⟩ := id C9
  obtain ⟨hP, hD, hS⟩ := id hst
  have kk := k9 p l e R s m args below meth c G A ad0 Qm C9 F ad H locs lsA hag hst hl
  have hv : Int32.ofNat n = Int32.ofInt (n : Int) := Int32.ofInt_eq_ofNat.symm
  exact va_alen hx hb hE.1.1 hP k 3 (zw_get he) (ty := .object "ChordSheet$Sheet") rfl hv hd kk
theorem wa_iaload {k n : Nat} {f : Int → Int} {i : Int} (hd : decode Y.2.1 pc = .ok (.iaload, 1)) (hp : pc + 1 = pc') (he : w[k]? = some (zA 0 n f)) (h0 : 0 ≤ i) (h1 : i < n) (hn : n < 2147483648) (k9 : Wa Y d mc ms n0 Post pc' ls (zI (f i) :: st) w nc ns) : Wa Y d mc ms n0 Post pc ls (zI i :: zR k :: st) w nc ns := by
  subst hp
  intro p l e R s m args below meth c G A ad0 Qm C9 F ad H locs lsA hag hst hl
  obtain ⟨hfl, hR, hx, hb, hml, hr, hown, hlk, hnm, htb, hT, hE, hA⟩ := id C9
  obtain ⟨hP, hD, hS⟩ := id hst
  have kk := k9 p l e R s m args below meth c G A ad0 Qm C9 F ad H locs lsA hag hst hl
  refine va_iald hx hb hE.1.1 hP k 0 (zw_get he) rfl (zi_vp h0 h1 hn) hd ?_
  have e9 : ((Int32.ofInt i).toNatClampNeg : Int) = i := by rw [zi_cl ⟨by omega, by omega⟩]; omega
  simp only [e9]
  exact kk
theorem wa_caload {k n : Nat} {f : Int → Int} {i : Int} (hd : decode Y.2.1 pc = .ok (.caload, 1)) (hp : pc + 1 = pc') (he : w[k]? = some (zA 1 n f)) (h0 : 0 ≤ i) (h1 : i < n) (hn : n < 2147483648) (k9 : Wa Y d mc ms n0 Post pc' ls (zI (f i) :: st) w nc ns) : Wa Y d mc ms n0 Post pc ls (zI i :: zR k :: st) w nc ns := by
  subst hp
  intro p l e R s m args below meth c G A ad0 Qm C9 F ad H locs lsA hag hst hl
  obtain ⟨hfl, hR, hx, hb, hml, hr, hown, hlk, hnm, htb, hT, hE, hA⟩ := id C9
  obtain ⟨hP, hD, hS⟩ := id hst
  have kk := k9 p l e R s m args below meth c G A ad0 Qm C9 F ad H locs lsA hag hst hl
  refine va_cald hx hb hE.1.1 hP k 1 (zw_get he) rfl (zi_vp h0 h1 hn) hd ?_
  have e9 : ((Int32.ofInt i).toNatClampNeg : Int) = i := by rw [zi_cl ⟨by omega, by omega⟩]; omega
  simp only [e9]
  exact kk
theorem wa_laload {k n : Nat} {f : Int → Int} {i : Int} (hd : decode Y.2.1 pc = .ok (.laload, 1)) (hp : pc + 1 = pc') (he : w[k]? = some (zA 2 n f)) (h0 : 0 ≤ i) (h1 : i < n) (hn : n < 2147483648) (k9 : Wa Y d mc ms n0 Post pc' ls (zJ (f i) :: st) w nc ns) : Wa Y d mc ms n0 Post pc ls (zI i :: zR k :: st) w nc ns := by
  subst hp
  intro p l e R s m args below meth c G A ad0 Qm C9 F ad H locs lsA hag hst hl
  obtain ⟨hfl, hR, hx, hb, hml, hr, hown, hlk, hnm, htb, hT, hE, hA⟩ := id C9
  obtain ⟨hP, hD, hS⟩ := id hst
  have kk := k9 p l e R s m args below meth c G A ad0 Qm C9 F ad H locs lsA hag hst hl
  refine va_lald hx hb hE.1.1 hP k 2 (zw_get he) rfl (zi_vp h0 h1 hn) hd ?_
  have e9 : ((Int32.ofInt i).toNatClampNeg : Int) = i := by rw [zi_cl ⟨by omega, by omega⟩]; omega
  simp only [e9]
  exact kk
theorem wa_iastore {k n : Nat} {f : Int → Int} {i x : Int} {w' : List zE} (hd : decode Y.2.1 pc = .ok (.iastore, 1)) (hp : pc + 1 = pc') (he : w[k]? = some (zA 0 n f)) (h0 : 0 ≤ i) (h1 : i < n) (hn : n < 2147483648) (hw : w.set k (zA 0 n (zup f i x)) = w') (k9 : Wa Y d mc ms n0 Post pc' ls st w' nc ns) : Wa Y d mc ms n0 Post pc ls (zI x :: zI i :: zR k :: st) w nc ns := by
  subst hw
  subst hp
  intro p l e R s m args below meth c G A ad0 Qm C9 F ad H locs lsA hag hst hl
  obtain ⟨hfl, hR, hx, hb, hml, hr, hown, hlk, hnm, htb, hT, hE, hA⟩ := id C9
  obtain ⟨hP, hD, hS⟩ := id hst
  refine va_iast hx hb hE.1.1 hP hD hS k 0 (zw_get he) rfl (zi_vp h0 h1 hn) hd (fun H1 locs1 hP1 hD1 hS1 => ?_)
  refine Wa.wW k9 C9 F (by rw [List.length_set]; exact hag) ?_ ⟨hP1, hD1, hS1⟩ hl
  rw [zw_set, zi_cl ⟨by omega, by omega⟩, zup_f f x h0]
  rfl
theorem zi_nar {x : Int} (h0 : 0 ≤ x) (h1 : x < 65536) : vp_nar .char (Int32.ofInt x) = Int32.ofInt x := by
  have hx : Int32.ofInt x = nI x.toNat := by rw [nI, ← Int32.ofInt_eq_ofNat, Int.toNat_of_nonneg h0]
  have := (pk_charN (q := x.toNat) (by omega)).1
  rw [hx, vp_nar, this]
theorem wa_castore {k n : Nat} {f : Int → Int} {i x : Int} {w' : List zE} (hd : decode Y.2.1 pc = .ok (.castore, 1)) (hp : pc + 1 = pc') (he : w[k]? = some (zA 1 n f)) (h0 : 0 ≤ i) (h1 : i < n) (hn : n < 2147483648) (hx0 : 0 ≤ x) (hx1 : x < 65536) (hw : w.set k (zA 1 n (zup f i x)) = w') (k9 : Wa Y d mc ms n0 Post pc' ls st w' nc ns) : Wa Y d mc ms n0 Post pc ls (zI x :: zI i :: zR k :: st) w nc ns := by
  subst hw
  subst hp
  intro p l e R s m args below meth c G A ad0 Qm C9 F ad H locs lsA hag hst hl
  obtain ⟨hfl, hR, hx, hb, hml, hr, hown, hlk, hnm, htb, hT, hE, hA⟩ := id C9
  obtain ⟨hP, hD, hS⟩ := id hst
  refine va_cast hx hb hE.1.1 hP hD hS k 1 (zw_get he) rfl (zi_vp h0 h1 hn) hd (fun H1 locs1 hP1 hD1 hS1 => ?_)
  refine Wa.wW k9 C9 F (by rw [List.length_set]; exact hag) ?_ ⟨hP1, hD1, hS1⟩ hl
  rw [zw_set, zi_nar hx0 hx1, zi_cl ⟨by omega, by omega⟩, zup_f f x h0]
  rfl
theorem zup_fL (f : Int → Int) {i : Int} (x : Int) (h : 0 ≤ i) : vp_updL (fun j : Nat => Int64.ofInt (f j)) i.toNat (Int64.ofInt x) = fun j : Nat => Int64.ofInt (zup f i x j) := by
  funext j
  simp only [vp_updL, zup]
  by_cases hj : (j : Int) = i
  · rw [if_pos hj, if_pos (by omega)]
  · rw [if_neg hj, if_neg (by omega)]
theorem wa_lastore {k n : Nat} {f : Int → Int} {i x : Int} {w' : List zE} (hd : decode Y.2.1 pc = .ok (.lastore, 1)) (hp : pc + 1 = pc') (he : w[k]? = some (zA 2 n f)) (h0 : 0 ≤ i) (h1 : i < n) (hn : n < 2147483648) (hw : w.set k (zA 2 n (zup f i x)) = w') (k9 : Wa Y d mc ms n0 Post pc' ls st w' nc ns) : Wa Y d mc ms n0 Post pc ls (zJ x :: zI i :: zR k :: st) w nc ns := by
  subst hw
  subst hp
  intro p l e R s m args below meth c G A ad0 Qm C9 F ad H locs lsA hag hst hl
  obtain ⟨hfl, hR, hx, hb, hml, hr, hown, hlk, hnm, htb, hT, hE, hA⟩ := id C9
  obtain ⟨hP, hD, hS⟩ := id hst
  refine va_last hx hb hE.1.1 hP hD hS k 2 (zw_get he) rfl (zi_vp h0 h1 hn) hd (fun H1 locs1 hP1 hD1 hS1 => ?_)
  refine Wa.wW k9 C9 F (by rw [List.length_set]; exact hag) ?_ ⟨hP1, hD1, hS1⟩ hl
  rw [zw_set, zi_cl ⟨by omega, by omega⟩, zup_fL f x h0]
  rfl
theorem wa_aaload {k n : Nat} {f : Nat → Option Nat} {i : Int} (hd : decode Y.2.1 pc = .ok (.aaload, 1)) (hp : pc + 1 = pc') (he : w[k]? = some (zQ n f)) (h0 : 0 ≤ i) (h1 : i < n) (hn : n < 2147483648) (k9 : Wa Y d mc ms n0 Post pc' ls (.inr (.inr ((f i.toNat).map .inl)) :: st) w nc ns) : Wa Y d mc ms n0 Post pc ls (zI i :: zR k :: st) w nc ns := by
  subst hp
  intro p l e R s m args below meth c G A ad0 Qm C9 F ad H locs lsA hag hst hl
  obtain ⟨hfl, hR, hx, hb, hml, hr, hown, hlk, hnm, htb, hT, hE, hA⟩ := id C9
  obtain ⟨hP, hD, hS⟩ := id hst
  have kk := k9 p l e R s m args below meth c G A ad0 Qm C9 F ad H locs lsA hag hst hl
  refine va_aldq hx hb hE.1.1 hP k 3 (zw_get he) rfl (zi_vp h0 h1 hn) hd ?_
  rw [zi_cl ⟨by omega, by omega⟩]
  have e9 : va_rf ((f i.toNat).map ad) = zc G.2.2.1 ad (.inr (.inr ((f i.toNat).map .inl))) := by cases f i.toNat <;> rfl
  show W p l e R s m args below meth c H locs nc ns Qm (F0 m (pc + 1) lsA (va_rf ((f i.toNat).map ad) :: st.map (zc G.2.2.1 ad)))
  rw [e9]
  exact kk
/-- constants -/
theorem wa_kget {q o n d9 : String} {k idx : Nat} {v : zV} (hOF : ∀ (G : zG) (A : Nat → Prop) (s : State) (H : Heap) (ad : Nat → Nat), zEnv G A s H → va_OF o n d9 (zc G.2.2.1 ad v) (G.2.2.1 k) A s H) (hlink : Cond.fieldLink Y.1.cls idx o n d9 ∈ lw_tbl) (hd : decode Y.2.1 pc = .ok (.getfield idx, 3)) (hp : pc + 3 = pc') (k9 : Wa Y d mc ms n0 Post pc' ls (v :: st) w nc ns) : Wa Y d mc ms n0 Post pc ls (zK k :: st) w nc ns := by
  subst hp
  intro p l e R s m args below meth c G A ad0 Qm C9 F ad H locs lsA hag hst hl
  obtain ⟨hfl, hR, hx, hb, hml, hr, hown, hlk, hnm, htb, hT, hE, hA⟩ := id C9
  obtain ⟨hP, hD, hS⟩ := id hst
  have kk := k9 p l e R s m args below meth c G A ad0 Qm C9 F ad H locs lsA hag hst hl
  exact vk_getf hx hb (hOF G A s s.heap ad hE) hS hown (hT.at hlink (zgood_c _ rfl) _) (fun _ h9 => h9) hd kk
theorem wa_kgetN {q o n d9 host : String} {k idx : Nat} {v : zV} (hOF : ∀ (G : zG) (A : Nat → Prop) (s : State) (H : Heap) (ad : Nat → Nat), zEnv G A s H → va_OF o n d9 (zc G.2.2.1 ad v) (G.2.2.1 k) A s H) (hlink : Cond.fieldLinkNest Y.1.cls idx o n d9 host ∈ lw_tbl) (hd : decode Y.2.1 pc = .ok (.getfield idx, 3)) (hp : pc + 3 = pc') (k9 : Wa Y d mc ms n0 Post pc' ls (v :: st) w nc ns) : Wa Y d mc ms n0 Post pc ls (zK k :: st) w nc ns := by
  subst hp
  intro p l e R s m args below meth c G A ad0 Qm C9 F ad H locs lsA hag hst hl
  obtain ⟨hfl, hR, hx, hb, hml, hr, hown, hlk, hnm, htb, hT, hE, hA⟩ := id C9
  obtain ⟨hP, hD, hS⟩ := id hst
  have kk := k9 p l e R s m args below meth c G A ad0 Qm C9 F ad H locs lsA hag hst hl
  obtain ⟨cf, k', fi, f, cell, h1, h2, h3, h4, h5, h6⟩ := (hOF G A s s.heap ad hE).kept hS.2.1
  exact va_Wgetf hx hb hown (hT.at hlink (zgood_k _ rfl) _) h1 h2 h3 h4 (v := zc G.2.2.1 ad v) h5 rfl rfl hd kk
theorem wa_kgets {C n d9 : String} {k idx : Nat} (hZ : ∀ (G : zG) (A : Nat → Prop) (s : State) (H : Heap), zEnv G A s H → va_Z C n d9 (.ref (G.2.2.1 k)) A s H) (hlink : Cond.fieldLink Y.1.cls idx C n d9 ∈ lw_tbl) (hd : decode Y.2.1 pc = .ok (.getstatic idx, 3)) (hp : pc + 3 = pc') (k9 : Wa Y d mc ms n0 Post pc' ls (zK k :: st) w nc ns) : Wa Y d mc ms n0 Post pc ls st w nc ns := by
  subst hp
  intro p l e R s m args below meth c G A ad0 Qm C9 F ad H locs lsA hag hst hl
  obtain ⟨hfl, hR, hx, hb, hml, hr, hown, hlk, hnm, htb, hT, hE, hA⟩ := id C9
  obtain ⟨hP, hD, hS⟩ := id hst
  have kk := k9 p l e R s m args below meth c G A ad0 Qm C9 F ad H locs lsA hag hst hl
  exact va_gets hx hb (hZ G A s s.heap hE) hS hown (hT.at hlink (zgood_c _ rfl) _) (fun _ h9 => h9) hd kk
theorem wa_kgetsI {C n d9 : String} {x : Int} {idx : Nat} (hZ : ∀ (G : zG) (A : Nat → Prop) (s : State) (H : Heap), zEnv G A s H → va_Z C n d9 (.int (Int32.ofInt x)) A s H) (hlink : Cond.fieldLink Y.1.cls idx C n d9 ∈ lw_tbl) (hd : decode Y.2.1 pc = .ok (.getstatic idx, 3)) (hp : pc + 3 = pc') (k9 : Wa Y d mc ms n0 Post pc' ls (zI x :: st) w nc ns) : Wa Y d mc ms n0 Post pc ls st w nc ns := by
  subst hp
  intro p l e R s m args below meth c G A ad0 Qm C9 F ad H locs lsA hag hst hl
  obtain ⟨hfl, hR, hx, hb, hml, hr, hown, hlk, hnm, htb, hT, hE, hA⟩ := id C9
  obtain ⟨hP, hD, hS⟩ := id hst
  have kk := k9 p l e R s m args below meth c G A ad0 Qm C9 F ad H locs lsA hag hst hl
  exact va_gets hx hb (hZ G A s s.heap hE) hS hown (hT.at hlink (zgood_c _ rfl) _) (fun _ h9 => h9) hd kk
theorem wa_klen {k N : Nat} {ty : FieldType} {f : zG → Nat → Value} (hTb : ∀ (G : zG) (A : Nat → Prop) (s : State) (H : Heap), zEnv G A s H → va_T ty (G.2.2.1 k) N (f G) A s H) (hd : decode Y.2.1 pc = .ok (.arraylength, 1)) (hp : pc + 1 = pc') (k9 : Wa Y d mc ms n0 Post pc' ls (zI N :: st) w nc ns) : Wa Y d mc ms n0 Post pc ls (zK k :: st) w nc ns := by
  subst hp
  intro p l e R s m args below meth c G A ad0 Qm C9 F ad H locs lsA hag hst hl
  obtain ⟨hfl, hR, hx, hb, hml, hr, hown, hlk, hnm, htb, hT, hE, hA⟩ := id C9
  obtain ⟨hP, hD, hS⟩ := id hst
  have kk := k9 p l e R s m args below meth c G A ad0 Qm C9 F ad H locs lsA hag hst hl
  exact va_tlen hx hb (hTb G A s s.heap hE) hS Int32.ofInt_eq_ofNat.symm hd kk
theorem wa_kaaload {i : Int} (hd : decode Y.2.1 pc = .ok (.aaload, 1)) (hp : pc + 1 = pc') (h0 : 0 ≤ i) (h1 : i < 10) (k9 : Wa Y d mc ms n0 Post pc' ls (zK i.toNat :: st) w nc ns) : Wa Y d mc ms n0 Post pc ls (zI i :: zK 10 :: st) w nc ns := by
  subst hp
  intro p l e R s m args below meth c G A ad0 Qm C9 F ad H locs lsA hag hst hl
  obtain ⟨hfl, hR, hx, hb, hml, hr, hown, hlk, hnm, htb, hT, hE, hA⟩ := id C9
  obtain ⟨hP, hD, hS⟩ := id hst
  have kk := k9 p l e R s m args below meth c G A ad0 Qm C9 F ad H locs lsA hag hst hl
  refine vb_tq hx hb hE.2.2.2.1.1 hS (zi_vp h0 h1 (by decide)) (v := .ref (G.2.2.1 i.toNat)) ?_ hd kk
  rw [zi_cl ⟨by omega, by omega⟩]
theorem wa_kbaload {q : Nat} {i : Int} (hq : q < 11) (hd : decode Y.2.1 pc = .ok (.baload, 1)) (hp : pc + 1 = pc') (h0 : 0 ≤ i) (h1 : i < (zBytes.getD q []).length) (k9 : Wa Y d mc ms n0 Post pc' ls (zI ((zBytes.getD q []).getD i.toNat 0) :: st) w nc ns) : Wa Y d mc ms n0 Post pc ls (zI i :: zK (30 + q) :: st) w nc ns := by
  subst hp
  intro p l e R s m args below meth c G A ad0 Qm C9 F ad H locs lsA hag hst hl
  obtain ⟨hfl, hR, hx, hb, hml, hr, hown, hlk, hnm, htb, hT, hE, hA⟩ := id C9
  obtain ⟨hP, hD, hS⟩ := id hst
  have kk := k9 p l e R s m args below meth c G A ad0 Qm C9 F ad H locs lsA hag hst hl
  have hN : (zBytes.getD q []).length < 2147483648 := by
    rcases (show q = 0 ∨ q = 1 ∨ q = 2 ∨ q = 3 ∨ q = 4 ∨ q = 5 ∨ q = 6 ∨ q = 7 ∨ q = 8 ∨ q = 9 ∨ q = 10 by omega) with h | h | h | h | h | h | h | h | h | h | h <;> (subst h; decide)
  refine va_tb hx hb (hE.2.2.2.2.2.2.1 q hq).2.2.2 hS (zi_vp h0 h1 hN) (v := .int (Int32.ofInt ((zBytes.getD q []).getD i.toNat 0))) ?_ hd kk
  rw [zi_cl ⟨by omega, by omega⟩]
theorem wa_ret {v : Option zV} (hpost : Post (.inl v) w) (hr : zRet Y pc v) (hc : nc ≤ mc) (hs : ns ≤ ms) {st : List zV} (hst : v.toList = st) : Wa Y d mc ms n0 Post pc ls st w nc ns := by
  subst hst
  intro p l e R s m args below meth c G A ad0 Qm C9 F ad H locs lsA hag hst hl
  exact F.1 v w ad H locs lsA pc nc ns hpost hr hc hs hag.1 hag.2 hst
theorem W.monoQ {p : Program} {l : Launch} {e : Env} {R : Room} {s : State} {m : MethodId} {args : Array Value} {below : List Frame} {meth : Method} {c : Code} {H : Heap} {locs : List Loc} {cells slots : Nat} {Q Q' : State → Prop} {g : JFrame} (k : W p l e R s m args below meth c H locs cells slots Q g) (h : ∀ t, Q t → Q' t) : W p l e R s m args below meth c H locs cells slots Q' g := fun T hT X => (k T hT X).elim fun t a => ⟨t, a.1, h t a.2⟩
theorem zflags {l : Launch} (h : l.flags = flags0) : l.stackTraces = false := by
  unfold Launch.stackTraces
  rw [h]
  decide +kernel
def zXs (own : String) (ik ic : Nat) (cls : String) : Prop := Bundle.fit cls = true ∧ (∀ n ∈ ["java/lang/RuntimeException", "java/lang/Exception"], Bundle.fit n = true) ∧ Cond.classLink own ik cls ∈ lw_tbl ∧ Cond.initialized cls ∈ lw_tbl ∧ (∀ w ∈ vx_atS own ic cls ["java/lang/RuntimeException", "java/lang/Exception"], w ∈ lw_tbl ∧ (goodWord w || zt_k w) = true) ∧ ∀ w ∈ Cond.classLink own ik cls :: Cond.initialized cls :: vx_atS own ic cls ["java/lang/RuntimeException", "java/lang/Exception"], vx_ot w = true
theorem zthrow_end {E : String} {s : State} {G : zG} {A : Nat → Prop} {ad0 ad : Nat → Nat} {H : Heap} {locs : List Loc} (hpost : Post (.inr E) w) (hag : n0 ≤ w.length ∧ zAg n0 w.length ad ad0) (hP : va_P G.1 vwCl (zw G ad w) H) (hD : va_D A (zw G ad w)) (hS : va_S A s.heap H locs) :
    ∀ t : State, s.vm.Alike t.vm → H.size ≤ t.heap.size → (∀ q : Nat, q < H.size → t.heap[q]? = H[q]?) → zXC G A ad0 n0 Post E s t := by
  intro t _ h1 h2
  refine ⟨⟨w, ad, hpost, hag.1, hag.2, hP.kept (fun k q hq => h2 q.1 (hP k q hq).lt), hD⟩, Nat.le_trans hS.1 h1, fun q hq hn => ?_⟩
  rw [h2 q (Nat.lt_of_lt_of_le hq hS.1)]
  exact hS.2.1 q hq hn
theorem wa_throwS {cls text : String} {ik is ic : Nat} (hX : zXs Y.1.cls ik ic cls) (hm : (Y.1.cls, is, text) ∈ zMsgs) (d0 : decode Y.2.1 pc = .ok (.new ik, 3)) (d3 : decode Y.2.1 (pc + 3) = .ok (.dup, 1)) (d4 : decode Y.2.1 (pc + 4) = .ok (.ldc is, 2)) (d6 : decode Y.2.1 (pc + 6) = .ok (.invokespecial ic, 3)) (d9 : decode Y.2.1 (pc + 9) = .ok (.athrow, 1)) (hh : Y.2.2.2.2 = []) (hd7 : 7 ≤ d) (hcat : (st.map zcat).sum ≤ 8) (hc : nc + 1 ≤ mc) (hs : ns + 6 ≤ ms) (hpost : Post (.inr cls) w) : Wa Y d mc ms n0 Post pc ls st w nc ns := by
  intro p l e R s m args below meth c G A ad0 Qm C9 F ad H locs lsA hag hst hl
  obtain ⟨hfl, hR, hx, hb, hml, hr, hown, hlk, hnm, htb, hT, hE, hA⟩ := id C9
  obtain ⟨hP, hD, hS⟩ := id hst
  obtain ⟨x1, x2, x3, x4, x5, x6⟩ := hX
  obtain ⟨sa, hsa⟩ := hE.2.2.2.2.2.2.2.1.2 _ hm
  have hcat' : ((st.map (zc G.2.2.1 ad)).map fun v => v.category).sum ≤ 8 := by
    rw [List.map_map]
    have : ((fun v : Value => v.category) ∘ zc G.2.2.1 ad) = zcat := by funext v; exact zcat_c _ _ v
    rw [this]; exact hcat
  refine W.monoQ (vx_throwS (Qc := fun _ _ _ _ => False) (XC := zXC G A ad0 n0 Post) (mc := mc) (ms := ms) (free := A) (names := ["java/lang/RuntimeException", "java/lang/Exception"]) hx hb (zflags hfl) hown x1 x2 (hT.at x3 (zgood_c _ rfl) _) (hT.at x4 (zgood_c _ rfl) _) hsa (fun w9 h9 => hT.at (x5 w9 h9).1 (x5 w9 h9).2 _) x6 hE.2.1.1 hE.2.1.2 hS (hl.1.trans hml.symm) d0 d3 d4 d6 d9 (by rw [htb, hh]; intro x hx; cases hx) (by show 2 + 3 < R.frames; omega) (by show _ + (13 * (2 + 1) + 43) ≤ R.locals; omega) (by omega) (by omega) hlk (zthrow_end hpost hag hP hD hS) hS.2.2 hc hs) F.2
theorem wa_throwSW {cls text : String} {ik is ic : Nat} (hX : zXs Y.1.cls ik ic cls) (hm : (Y.1.cls, is, text) ∈ zMsgs) (d0 : decode Y.2.1 pc = .ok (.new ik, 3)) (d3 : decode Y.2.1 (pc + 3) = .ok (.dup, 1)) (d4 : decode Y.2.1 (pc + 4) = .ok (.ldc_w is, 3)) (d6 : decode Y.2.1 (pc + 7) = .ok (.invokespecial ic, 3)) (d9 : decode Y.2.1 (pc + 10) = .ok (.athrow, 1)) (hh : Y.2.2.2.2 = []) (hd7 : 7 ≤ d) (hcat : (st.map zcat).sum ≤ 8) (hc : nc + 1 ≤ mc) (hs : ns + 6 ≤ ms) (hpost : Post (.inr cls) w) : Wa Y d mc ms n0 Post pc ls st w nc ns := by
  intro p l e R s m args below meth c G A ad0 Qm C9 F ad H locs lsA hag hst hl
  obtain ⟨hfl, hR, hx, hb, hml, hr, hown, hlk, hnm, htb, hT, hE, hA⟩ := id C9
  obtain ⟨hP, hD, hS⟩ := id hst
  obtain ⟨x1, x2, x3, x4, x5, x6⟩ := hX
  obtain ⟨sa, hsa⟩ := hE.2.2.2.2.2.2.2.1.2 _ hm
  have hcat' : ((st.map (zc G.2.2.1 ad)).map fun v => v.category).sum ≤ 8 := by
    rw [List.map_map]
    have : ((fun v : Value => v.category) ∘ zc G.2.2.1 ad) = zcat := by funext v; exact zcat_c _ _ v
    rw [this]; exact hcat
  refine W.monoQ (vx_throwSW (Qc := fun _ _ _ _ => False) (XC := zXC G A ad0 n0 Post) (mc := mc) (ms := ms) (free := A) (names := ["java/lang/RuntimeException", "java/lang/Exception"]) hx hb (zflags hfl) hown x1 x2 (hT.at x3 (zgood_c _ rfl) _) (hT.at x4 (zgood_c _ rfl) _) hsa (fun w9 h9 => hT.at (x5 w9 h9).1 (x5 w9 h9).2 _) x6 hE.2.1.1 hE.2.1.2 hS (hl.1.trans hml.symm) d0 d3 d4 d6 d9 (by rw [htb, hh]; intro x hx; cases hx) (by show 2 + 3 < R.frames; omega) (by show _ + (13 * (2 + 1) + 43) ≤ R.locals; omega) (by omega) (by omega) hlk (zthrow_end hpost hag hP hD hS) hS.2.2 hc hs) F.2
end ZX
end
section
/-! THE LAYER, 3: contracts and calls -/
def zwd (Y : zY) : Cond := match Y.2.2.2.2 with
  | [] => .code Y.1 Y.2.1 Y.2.2.1 Y.2.2.2.1
  | h :: t => .codeWith Y.1 Y.2.1 Y.2.2.1 Y.2.2.2.1 (h :: t)
def zPc (G : zG) (ad : Nat → Nat) (sz : Nat) (as : List zV) (w : List zE) : Array Value → State → Prop :=
  va_Pc (as.map (zc G.2.2.1 ad)) (fun U => U.heap.size = sz ∧ va_P G.1 vwCl (zw G ad w) U.heap ∧ va_D (fun _ => True) (zw G ad w) ∧ zEnv G (va_A (zw G ad w) sz) U U.heap ∧ zTab U)
def zQc (G : zG) (ad : Nat → Nat) (sz : Nat) (w : List zE) (Post : zP → List zE → Prop) : Array Value → State → Outcome → State → Prop := fun _ st o t =>
  (∃ (v : Option zV) (w' : List zE) (ad' : Nat → Nat), o = .returned (v.map (zc G.2.2.1 ad')) ∧ Post (.inl v) w' ∧ w.length ≤ w'.length ∧ zAg w.length w'.length ad' ad ∧ va_P G.1 vwCl (zw G ad' w') t.heap ∧ va_D (va_A (zw G ad w) sz) (zw G ad' w')) ∧ va_F (va_A (zw G ad w) sz) st t
abbrev zRm (d mc ms : Nat) : Room := { frames := d, cells := mc, slots := ms, locals := 34 * d }
/-- the contract of a method, called with these arguments in this world -/
def zMet (Y : zY) (d mc ms : Nat) (as : List zV) (w : List zE) (Post : zP → List zE → Prop) : Prop :=
  ∀ (l : Launch) (G : zG) (ad : Nat → Nat) (sz : Nat), l.flags = flags0 → vx_Met l Y.1 [zwd Y] (zRm d mc ms) (zPc G ad sz as w) (zQc G ad sz w Post) (zXC G (va_A (zw G ad w) sz) ad w.length Post) mc ms (va_A (zw G ad w) sz)
theorem zMet.post {Y : zY} {d mc ms : Nat} {as : List zV} {w : List zE} {Post Post' : zP → List zE → Prop} (h : zMet Y d mc ms as w Post) (hp : ∀ o w', Post o w' → Post' o w') : zMet Y d mc ms as w Post' := by
  intro l G ad sz hfl p e ha hc hk s m args below hf hap hP hK
  obtain ⟨k, o, h1, h2, h3, h4⟩ := h l G ad sz hfl p e ha hc hk s m args below hf hap hP hK
  refine ⟨k, o, h1, h2, h3, ?_⟩
  rcases h4 with ⟨⟨⟨v, w', ad', a1, a2, a3⟩, a4⟩, hL⟩ | ⟨q, a1, E, ce, L, ⟨⟨w', ad', b1, b2⟩, b3⟩, b4⟩
  · exact Or.inl ⟨⟨⟨v, w', ad', a1, hp _ _ a2, a3⟩, a4⟩, hL⟩
  · exact Or.inr ⟨q, a1, E, ce, L, ⟨⟨w', ad', hp _ _ b1, b2⟩, b3⟩, b4⟩
theorem z_fin {Y : zY} {mc ms : Nat} {w : List zE} {Post : zP → List zE → Prop} {p : Program} {l : Launch} {e : Env} {R : Room} {s : State} {m : MethodId} {args : Array Value} {below : List Frame} {meth : Method} {c : Code} {G : zG} {ad : Nat → Nat} (hx : p.tables.exec = Jvm.exec) (hb : c.code = Y.2.1) (hr : meth.sig.returnType = Y.2.2.2.1) (hlk : meth.locks = false) :
    zFin Y mc ms w.length Post p l e R s m args below meth c G (va_A (zw G ad w) s.heap.size) ad (vx_MQ below (zQc G ad s.heap.size w Post) (zXC G (va_A (zw G ad w) s.heap.size) ad w.length Post) args s mc ms (va_A (zw G ad w) s.heap.size)) := by
  refine ⟨fun v w' ad' H locs lsA pc nc ns hpost hret hc hs hlen hag hst => ?_, fun U h => ?_⟩
  · obtain ⟨hP, hD, hS⟩ := hst
    refine W.widen hc hs ?_
    refine vx_ret ?_
    have hq : ∀ t : State, t.heap = H → s.WarmedH t.vm → zQc G ad s.heap.size w Post args s (.returned (v.map (zc G.2.2.1 ad'))) t := fun t ht _ => ⟨⟨v, w', ad', rfl, hpost, hlen, hag, by rw [ht]; exact hP, hD⟩, hS.F ht⟩
    rcases v with _ | n | n | x
    · exact W.vret hx hb (hr.trans hret.1) hq hS.2.2 hret.2
    · obtain ⟨hd, hty⟩ := hret
      rcases hty with h | ⟨h, hn⟩ | ⟨h, h0, h1⟩ | ⟨h, h0, h1⟩
      · exact W.zret hx hb (hr.trans h) rfl hq hS.2.2 hd
      · refine W.zret hx hb (hr.trans h) ?_ hq hS.2.2 hd
        rcases hn with rfl | rfl <;> rfl
      · refine W.zret hx hb (hr.trans h) ?_ hq hS.2.2 hd
        have hx9 : Int32.ofInt n = nI n.toNat := by rw [nI, ← Int32.ofInt_eq_ofNat, Int.toNat_of_nonneg h0]
        rw [hx9]
        exact (pk_charN (by omega)).1
      · refine W.zret hx hb (hr.trans h) ?_ hq hS.2.2 hd
        rw [narrow_byte]
        congr 1
        apply Int32.toInt_inj.mp
        rw [Int8.toInt_toInt32, Int32.toInt_toInt8, zin_t ⟨by omega, by omega⟩]
        rw [Int.bmod_eq_of_le (by omega) (by omega)]
    · exact W.lret hx hb (hr.trans hret.2) hq hS.2.2 hret.1
    · obtain ⟨hd, n, hn⟩ := hret
      refine W.aret hx hb (hr.trans hn) (Or.inl ⟨n, rfl⟩) ?_ hq hS.2.2 hd
      rcases x with _ | k | k
      · exact Or.inl rfl
      · exact Or.inr ⟨_, rfl⟩
      · exact Or.inr ⟨_, rfl⟩
  · obtain ⟨o, h1, h2, h3⟩ := h
    refine ⟨o, h1, h2, ?_⟩
    rcases h3 with ⟨h, _⟩ | h
    · exact h.elim
    · exact Or.inr h
theorem z_intro {Y : zY} {d mc ms : Nat} {as : List zV} {w : List zE} {Post : zP → List zE → Prop} {ls : List (Nat × zV)} (hy : plainName Y.1.cls = true) (hh : Y.2.2.2.2 = []) (hla : ∀ ac ad, lv_args 0 (as.map (zc ac ad)) = zls ac ad ls) (hlen : ∀ ac ad, (lg_sl (as.map (zc ac ad))).length ≤ Y.2.2.1)
    (k : Wa Y d mc ms w.length Post 0 ls [] w 0 0) : zMet Y d mc ms as w Post := by
  intro l G ad sz hfl
  refine vx_ofW (cc := Y.2.1) (maxL := Y.2.2.1) (ret := Y.2.2.2.1) (ws' := []) hy (by unfold zwd; rw [hh]) ?_
  intro p e s m args below meth c s₁ B hml ht hv
  obtain ⟨rfl, hsz, hP, hD0, hE, hT⟩ := hv
  subst hsz
  have hl := lv_entry (as.map (zc G.2.2.1 ad)) (hlen G.2.2.1 ad)
  rw [lg_entry_eq]
  rw [hla] at hl
  refine k p l e _ s m _ below meth c G (va_A (zw G ad w) s.heap.size) ad _ ⟨hfl, ⟨Nat.le_refl _, Nat.le_refl _, Nat.le_refl _, Nat.le_refl _⟩, B.exec, B.bytes, hml, B.returns, findClass_of_methodNamed B.named, B.notSynchronized, (name_of_methodNamed B.named B.method).1, ?_, hT, hE, fun q h => Or.inr h⟩ (z_fin B.exec B.bytes B.returns B.notSynchronized) ad s.heap [] _ ⟨Nat.le_refl _, fun k h => rfl⟩ ⟨hP, hD0.self, va_S.rf⟩ hl
  rw [hh]
  cases hq : c.exceptionTable.toList with
  | nil => rfl
  | cons x t => exact (ht x (by rw [hq]; exact List.mem_cons_self)).elim
theorem z_introH {Y : zY} {d mc ms : Nat} {as : List zV} {w : List zE} {Post : zP → List zE → Prop} {ls : List (Nat × zV)} {h1 : Nat × Nat × Nat × Nat} {ht : List (Nat × Nat × Nat × Nat)} (hy : plainName Y.1.cls = true) (hh : Y.2.2.2.2 = h1 :: ht) (hla : ∀ ac ad, lv_args 0 (as.map (zc ac ad)) = zls ac ad ls) (hlen : ∀ ac ad, (lg_sl (as.map (zc ac ad))).length ≤ Y.2.2.1)
    (k : Wa Y d mc ms w.length Post 0 ls [] w 0 0) : zMet Y d mc ms as w Post := by
  intro l G ad sz hfl
  refine vx_ofWH (cc := Y.2.1) (maxL := Y.2.2.1) (ret := Y.2.2.2.1) (hh := Y.2.2.2.2) (ws' := []) hy (by unfold zwd; rw [hh]) ?_
  intro p e s m args below meth c s₁ B hml hv
  obtain ⟨rfl, hsz, hP, hD0, hE, hT⟩ := hv
  subst hsz
  have hl := lv_entry (as.map (zc G.2.2.1 ad)) (hlen G.2.2.1 ad)
  rw [lg_entry_eq]
  rw [hla] at hl
  have hcd : (Cond.codeWith Y.1 Y.2.1 Y.2.2.1 Y.2.2.2.1 Y.2.2.2.2).before (as.map (zc G.2.2.1 ad)).toArray s = true := atoms_spec (ws := [zwd Y]) B.pre _ (by unfold zwd; rw [hh]; exact List.mem_cons_self)
  exact k p l e _ s m _ below meth c G (va_A (zw G ad w) s.heap.size) ad _ ⟨hfl, ⟨Nat.le_refl _, Nat.le_refl _, Nat.le_refl _, Nat.le_refl _⟩, B.exec, B.bytes, hml, B.returns, findClass_of_methodNamed B.named, B.notSynchronized, (name_of_methodNamed B.named B.method).1, vx_table (x := Y.1) B hcd, hT, hE, fun q h => Or.inr h⟩ (z_fin B.exec B.bytes B.returns B.notSynchronized) ad s.heap [] _ ⟨Nat.le_refl _, fun k h => rfl⟩ ⟨hP, hD0.self, va_S.rf⟩ hl
/-! a part of a world, by an index map -/
def zrv (ρ : List Nat) (v : zV) : zV := match v with
  | .inr (.inr (some (.inl k))) => zR (ρ.getD k 0)
  | v => v
def zre (ρ : List Nat) (e : zE) : zE := match e with
  | .inl a => .inl a
  | .inr (.inl (n, f)) => .inr (.inl (n, fun j => (f j).map fun k => ρ.getD k 0))
  | .inr (.inr (c, fs)) => .inr (.inr (c, fs.map (zrv ρ)))
theorem zc_ren (ρ : List Nat) (ac ad : Nat → Nat) (v : zV) : zc ac (fun k => ad (ρ.getD k 0)) v = zc ac ad (zrv ρ v) := by rcases v with n | n | _ | k | k <;> rfl
theorem ze_ren (ρ : List Nat) (G : zG) (ad : Nat → Nat) (e : zE) : ze G (fun k => ad (ρ.getD k 0)) e = ze G ad (zre ρ e) := by
  rcases e with a | ⟨n, f⟩ | ⟨c, fs⟩
  · rfl
  · simp only [ze, zre, Option.map_map]
    rfl
  · simp only [ze, zre, List.map_map]
    congr 3
    funext v
    exact zc_ren ρ G.2.2.1 ad v
def zins (f : zE → zE) : List Nat → List zE → List zE → List zE
  | i :: is, e :: es, w => zins f is es (w.set i (f e))
  | _, _, w => w
theorem zins_len (f : zE → zE) : ∀ (is : List Nat) (es w : List zE), (zins f is es w).length = w.length
  | [], es, w => by cases es <;> rfl
  | i :: is, [], w => rfl
  | i :: is, e :: es, w => by rw [zins, zins_len f is es, List.length_set]
theorem zins_out (f : zE → zE) : ∀ (is : List Nat) (es w : List zE) (k : Nat), k ∉ is → (zins f is es w)[k]? = w[k]?
  | [], es, w, k, _ => by cases es <;> rfl
  | i :: is, [], w, k, _ => rfl
  | i :: is, e :: es, w, k, h => by
    rw [zins, zins_out f is es _ k (fun h2 => h (List.mem_cons_of_mem _ h2)), List.getElem?_set_ne (fun e => h (by rw [e]; exact List.mem_cons_self))]
theorem zins_in (f : zE → zE) : ∀ (is : List Nat) (es w : List zE) (j k : Nat) (e : zE), is.Nodup → is[j]? = some k → es[j]? = some e → k < w.length → (zins f is es w)[k]? = some (f e)
  | [], es, w, j, k, e, _, h, _, _ => by simp at h
  | i :: is, [], w, j, k, e, _, _, h, _ => by simp at h
  | i :: is, x :: es, w, 0, k, e, hn, h1, h2, hl => by
    simp only [List.getElem?_cons_zero, Option.some.injEq] at h1 h2
    subst h1; subst h2
    rw [zins, zins_out f is es _ i (List.nodup_cons.mp hn).1, List.getElem?_set_self hl]
  | i :: is, x :: es, w, j + 1, k, e, hn, h1, h2, hl => by
    rw [List.getElem?_cons_succ] at h1 h2
    rw [zins]
    exact zins_in f is es _ j k e (List.nodup_cons.mp hn).2 h1 h2 (by rw [List.length_set]; exact hl)
theorem zD_len {A : Nat → Prop} {G : zG} {ad : Nat → Nat} {w w' : List zE} (h : va_D A (zw G ad w)) (hl : w'.length = w.length) : va_D A (zw G ad w') := by
  have key : ∀ (k : Nat) (q : Nat × va_E), (zw G ad w')[k]? = some q → ∃ e, (zw G ad w)[k]? = some (q.1, e) := by
    intro k q hq
    rw [zw_at] at hq
    cases h1 : w'[k]? with
    | none => rw [h1] at hq; cases hq
    | some e =>
      rw [h1] at hq
      cases hq
      have hk : k < w.length := by rw [← hl]; exact (List.getElem?_eq_some_iff.mp h1).1
      exact ⟨_, zw_get (List.getElem?_eq_getElem hk)⟩
  refine ⟨fun i j p q hi hj hpq => ?_, fun k q hk => ?_⟩
  · obtain ⟨e1, h1⟩ := key i p hi
    obtain ⟨e2, h2⟩ := key j q hj
    exact h.1 i j _ _ h1 h2 hpq
  · obtain ⟨e1, h1⟩ := key k q hk
    exact h.2 k (q.1, e1) h1
/-- the callee's part of the caller's world -/
theorem z_part {G : zG} {ad : Nat → Nat} {w w1 : List zE} {ρ : List Nat} (hsub : ρ.map (fun i => w[i]?) = w1.map fun e => some (zre ρ e)) : ∀ (j : Nat) (q : Nat × va_E), (zw G (fun k => ad (ρ.getD k 0)) w1)[j]? = some q → ∃ i, ρ[j]? = some i ∧ q.1 = ad i ∧ (zw G ad w)[i]? = some q := by
  intro j q hq
  rw [zw_at] at hq
  cases h1 : w1[j]? with
  | none => rw [h1] at hq; cases hq
  | some e =>
    rw [h1] at hq
    cases hq
    have h2 : (ρ.map (fun i => w[i]?))[j]? = some (some (zre ρ e)) := by rw [hsub, List.getElem?_map, h1]; rfl
    rw [List.getElem?_map] at h2
    cases h3 : ρ[j]? with
    | none => rw [h3] at h2; cases h2
    | some i =>
      rw [h3] at h2
      have h4 : w[i]? = some (zre ρ e) := Option.some.inj h2
      have h5 : ρ.getD j 0 = i := by rw [List.getD_eq_getElem?_getD, h3]; rfl
      refine ⟨i, rfl, ?_, ?_⟩
      · show ad (ρ.getD j 0) = ad i
        rw [h5]
      · rw [zw_get h4]
        show some (ad i, ze G ad (zre ρ e)) = some (ad (ρ.getD j 0), ze G (fun k => ad (ρ.getD k 0)) e)
        rw [ze_ren, h5]
theorem z_partP {G : zG} {ad : Nat → Nat} {w w1 : List zE} {ρ : List Nat} {H : Heap} (hsub : ρ.map (fun i => w[i]?) = w1.map fun e => some (zre ρ e)) (hP : va_P G.1 vwCl (zw G ad w) H) : va_P G.1 vwCl (zw G (fun k => ad (ρ.getD k 0)) w1) H := by
  intro j q hq
  obtain ⟨i, -, -, h⟩ := z_part hsub j q hq
  exact hP i q h
theorem z_partD {G : zG} {ad : Nat → Nat} {w w1 : List zE} {ρ : List Nat} {A : Nat → Prop} (hsub : ρ.map (fun i => w[i]?) = w1.map fun e => some (zre ρ e)) (hn : ρ.Nodup) (hD : va_D A (zw G ad w)) : va_D A (zw G (fun k => ad (ρ.getD k 0)) w1) := by
  refine ⟨fun i j p q hi hj hpq => ?_, fun k q hk => ?_⟩
  · obtain ⟨i1, a1, -, b1⟩ := z_part hsub i p hi
    obtain ⟨j1, a2, -, b2⟩ := z_part hsub j q hj
    have := hD.1 i1 j1 _ _ b1 b2 hpq
    subst this
    exact (List.getElem?_inj (List.getElem?_eq_some_iff.mp a1).1 hn).mp (a1.trans a2.symm)
  · obtain ⟨i, -, -, h⟩ := z_part hsub k q hk
    exact hD.2 i q h
/-- behind the call: the callee's cells as it left them, the others as they were -/
theorem z_back {G : zG} {ad : Nat → Nat} {w w1 w1' : List zE} {ρ : List Nat} {A : Nat → Prop} {H H1 : Heap} (hsub : ρ.map (fun i => w[i]?) = w1.map fun e => some (zre ρ e)) (hn : ρ.Nodup) (hlen : w1'.length = w1.length) (hP : va_P G.1 vwCl (zw G ad w) H) (hD : va_D A (zw G ad w))
    (hk : ∀ q : Nat, q < H.size → ¬ va_A (zw G (fun k => ad (ρ.getD k 0)) w1) H.size q → H1[q]? = H[q]?) (hP1 : va_P G.1 vwCl (zw G (fun k => ad (ρ.getD k 0)) w1') H1) : va_P G.1 vwCl (zw G ad (zins (zre ρ) ρ w1' w)) H1 := by
  have hρl : ρ.length = w1.length := by have := congrArg List.length hsub; simpa using this
  intro k q hq
  rw [zw_at] at hq
  by_cases hk1 : k ∈ ρ
  · obtain ⟨j, hj⟩ := List.getElem?_of_mem hk1
    have hjl : j < w1'.length := by rw [hlen, ← hρl]; exact (List.getElem?_eq_some_iff.mp hj).1
    have hkl : k < w.length := by
      have h2 : (ρ.map (fun i => w[i]?))[j]? = (w1.map fun e => some (zre ρ e))[j]? := by rw [hsub]
      rw [List.getElem?_map, hj, List.getElem?_map, List.getElem?_eq_getElem (by rw [← hlen]; exact hjl)] at h2
      exact (List.getElem?_eq_some_iff.mp (Option.some.inj h2)).1
    rw [zins_in (zre ρ) ρ w1' w j k _ hn hj (List.getElem?_eq_getElem hjl) hkl] at hq
    cases hq
    have h5 : ρ.getD j 0 = k := by rw [List.getD_eq_getElem?_getD, hj]; rfl
    have h6 := hP1 j _ (zw_get (List.getElem?_eq_getElem hjl))
    rw [ze_ren, h5] at h6
    exact h6
  · rw [zins_out (zre ρ) ρ w1' w k hk1] at hq
    have hq' : (zw G ad w)[k]? = some q := by rw [zw_at]; exact hq
    have h1 := hP k q hq'
    refine h1.kept (hk q.1 h1.lt ?_)
    intro h
    rcases h with ⟨j, e, hj⟩ | h
    · obtain ⟨i, a1, -, b1⟩ := z_part hsub j _ hj
      have := hD.1 k i _ _ hq' b1 rfl
      subst this
      exact hk1 (List.mem_of_getElem? a1)
    · have := h1.lt
      omega
section ZC
variable {Y Y1 : zY} {d d1 mc ms mc1 ms1 n0 : Nat} {Post Post1 : zP → List zE → Prop} {pc pc' : Nat} {ls : List (Nat × zV)} {st stk as : List zV} {w w1 : List zE} {nc ns : Nat} {ρ : List Nat}
theorem z_preA {G : zG} {A : Nat → Prop} {ad : Nat → Nat} {s : State} {H : Heap} {locs : List Loc} (hsub : ρ.map (fun i => w[i]?) = w1.map fun e => some (zre ρ e)) (hD : va_D A (zw G ad w)) (hS : va_S A s.heap H locs) (hA : ∀ q : Nat, s.heap.size ≤ q → A q) : ∀ q, va_A (zw G (fun k => ad (ρ.getD k 0)) w1) H.size q → A q := by
  intro q h
  rcases h with ⟨j, e, hj⟩ | h
  · obtain ⟨i, -, -, b⟩ := z_part hsub j _ hj
    exact hD.2 i _ b
  · exact hA q (Nat.le_trans hS.1 h)
theorem z_pre {G : zG} {A : Nat → Prop} {ad : Nat → Nat} {s : State} {H : Heap} {locs : List Loc} (hsub : ρ.map (fun i => w[i]?) = w1.map fun e => some (zre ρ e)) (hn : ρ.Nodup) (hst : zSt G A ad s H locs w) (hE : zEnv G A s s.heap) (hT : zTab s) (hA : ∀ q : Nat, s.heap.size ≤ q → A q) :
    FrameBlind (zPc G (fun k => ad (ρ.getD k 0)) H.size as w1) ∧ ∀ U : State, U.heap = H → s.WarmedH U.vm → zPc G (fun k => ad (ρ.getD k 0)) H.size as w1 (as.map (zc G.2.2.1 (fun k => ad (ρ.getD k 0)))).toArray U := by
  obtain ⟨hP, hD, hS⟩ := hst
  refine ⟨fun a U g mk q => ?_, fun U hU hW => ?_⟩
  · obtain ⟨q0, q1, qP, qD, qE, qT⟩ := q
    have hW : U.WarmedH (U.calling g mk a).vm := State.WarmedH.refl U
    exact ⟨q0, q1, qP, qD, zEnv_to qE va_S.rf rfl hW (fun _ h => h), zTab_warm hW qT⟩
  · exact ⟨rfl, by rw [hU], by rw [hU]; exact z_partP hsub hP, (z_partD hsub hn hD).weaken (fun _ _ _ _ => trivial), zEnv_to hE hS hU hW (z_preA hsub hD hS hA), zTab_warm hW hT⟩
/-- the heart of every call that makes no cell that stays: what comes back is put into the caller's world -/
theorem z_go {p : Program} {l : Launch} {e : Env} {R : Room} {s : State} {m : MethodId} {args : Array Value} {below : List Frame} {meth : Method} {c : Code} {G : zG} {A : Nat → Prop} {ad0 ad : Nat → Nat} {Qm : State → Prop} {H : Heap} {locs : List Loc} {lsA : Array Slot} {stv : List Value} {a : Array Value}
    (C9 : zCx Y d mc ms p l R s m meth c G A) (F : zFin Y mc ms n0 Post p l e R s m args below meth c G A ad0 Qm) (hag : n0 ≤ w.length ∧ zAg n0 w.length ad ad0) (hst : zSt G A ad s H locs w) (hl : lv_has lsA Y.2.2.1 (zls G.2.2.1 ad ls))
    (hsub : ρ.map (fun i => w[i]?) = w1.map fun e => some (zre ρ e)) (hn : ρ.Nodup) (hlen : ∀ o w', Post1 o w' → w'.length = w1.length)
    (hr : vx_Run p l e R s m args below meth c H locs nc ns mc1 ms1 (F0 m pc lsA stv) (st.map (zc G.2.2.1 ad)) (zQc G (fun k => ad (ρ.getD k 0)) H.size w1 Post1 a) (zXC G (va_A (zw G (fun k => ad (ρ.getD k 0)) w1) H.size) (fun k => ad (ρ.getD k 0)) w1.length Post1) (va_A (zw G (fun k => ad (ρ.getD k 0)) w1) H.size))
    (kx : ∀ (E : String) (w1' : List zE) (H1 : Heap) (locs1 : List Loc) (q : Addr) (ce : Cell), Post1 (.inr E) w1' → zSt G A ad s H1 locs1 (zins (zre ρ) ρ w1' w) → H1[q]? = some ce → ce.vm = .none → s.vm.findClass E = some ce.cls → vx_W p l e R s m args below meth c H1 locs1 (nc + mc1) (ns + ms1) Qm (F0 m pc lsA (st.map (zc G.2.2.1 ad))) q)
    (k : ∀ (v : Option zV) (w1' : List zE), Post1 (.inl v) w1' → Wa Y d mc ms n0 Post (pc + 3) ls ((v.map (zrv ρ)).toList ++ st) (zins (zre ρ) ρ w1' w) (nc + mc1) (ns + ms1)) :
    W p l e R s m args below meth c H locs nc ns Qm (F0 m pc lsA stv) := by
  obtain ⟨hfl, hR, hx, hb, hml, hr9, hown, hlk, hnm, htb, hT, hE, hA⟩ := id C9
  obtain ⟨hP, hD, hS⟩ := id hst
  have hF : ∀ q, va_A (zw G (fun k => ad (ρ.getD k 0)) w1) H.size q → A q := z_preA hsub hD hS hA
  intro T hT9 X
  rcases hr T hT9 X with ⟨v, st₀, t, T', L, h0, X', hL, e1, e2, ⟨⟨v1, w1', ad1, hv, hp, hle, hag1, hP1, hD1⟩, hF1⟩, stp⟩ | ⟨q, st₀, t, T', L, E, ce, h0, X', hL, e1, e2, ⟨⟨w1', ad1, hp, hle, hag1, hP1, hD1⟩, hF1⟩, hce, hcv, hcl, stp⟩
  · cases hv
    have hl1 := hlen _ _ hp
    have had : ad1 = fun k => ad (ρ.getD k 0) := by
      funext k
      exact hag1 k (by rw [hl1]; omega)
    subst had
    obtain ⟨k1, k2, k3⟩ := vx_keep h0 e1 hS (fun q _ h => hF q h) hF hL hF1
    have hP2 : va_P G.1 vwCl (zw G ad (zins (zre ρ) ρ w1' w)) T'.heap := z_back hsub hn hl1 hP hD k2 (by rw [e1]; exact hP1)
    have hD2 : va_D A (zw G ad (zins (zre ρ) ρ w1' w)) := zD_len hD (zins_len _ _ _ _)
    have hkk := k v1 w1' hp p l e R s m args below meth c G A ad0 Qm C9 F ad T'.heap (locs ++ L) lsA (by rw [zins_len]; exact hag) ⟨hP2, hD2, k3⟩ hl
    obtain ⟨t2, a1, b1⟩ := hkk T' rfl X'
    refine ⟨t2, stp t2 ?_, b1⟩
    have e9 : (v1.map (zc G.2.2.1 (fun k => ad (ρ.getD k 0)))).toList ++ st.map (zc G.2.2.1 ad) = ((v1.map (zrv ρ)).toList ++ st).map (zc G.2.2.1 ad) := by
      cases v1 with
      | none => rfl
      | some v => simp only [Option.map_some, Option.toList_some, List.cons_append, List.nil_append, List.map_cons, zc_ren]
    rw [e9]
    exact a1
  · have hl1 := hlen _ _ hp
    have had : ad1 = fun k => ad (ρ.getD k 0) := by
      funext k
      exact hag1 k (by rw [hl1]; omega)
    subst had
    obtain ⟨k1, k2, k3⟩ := vx_keep h0 e1 hS (fun q _ h => hF q h) hF hL hF1
    have hP2 : va_P G.1 vwCl (zw G ad (zins (zre ρ) ρ w1' w)) T'.heap := z_back hsub hn hl1 hP hD k2 (by rw [e1]; exact hP1)
    have hD2 : va_D A (zw G ad (zins (zre ρ) ρ w1' w)) := zD_len hD (zins_len _ _ _ _)
    obtain ⟨t2, a1, b1⟩ := kx E w1' T'.heap (locs ++ L) q ce hp ⟨hP2, hD2, k3⟩ (by rw [e1]; exact hce) hcv hcl T' rfl X'
    exact ⟨t2, stp.trans a1, b1⟩
/-- a throw that isn't caught here goes on -/
theorem z_out {p : Program} {l : Launch} {e : Env} {R : Room} {s : State} {m : MethodId} {args : Array Value} {below : List Frame} {meth : Method} {c : Code} {G : zG} {A : Nat → Prop} {ad0 ad : Nat → Nat} {Qm : State → Prop} {H : Heap} {locs : List Loc} {lsA : Array Slot} {stv : List Value} {E : String} {q : Addr} {ce : Cell}
    (C9 : zCx Y d mc ms p l R s m meth c G A) (F : zFin Y mc ms n0 Post p l e R s m args below meth c G A ad0 Qm) (hag : n0 ≤ w.length ∧ zAg n0 w.length ad ad0) (hst : zSt G A ad s H locs w) (hh : Y.2.2.2.2 = []) (hpost : Post (.inr E) w) (hc : nc ≤ mc) (hs : ns ≤ ms) (hce : H[q]? = some ce) (hcv : ce.vm = .none) (hcl : s.vm.findClass E = some ce.cls) :
    vx_W p l e R s m args below meth c H locs nc ns Qm (F0 m pc lsA stv) q := by
  obtain ⟨hfl, hR, hx, hb, hml, hr9, hown, hlk, hnm, htb, hT, hE, hA⟩ := id C9
  obtain ⟨hP, hD, hS⟩ := id hst
  have h9 := vx_out (p := p) (l := l) (e := e) (R := R) (m := m) (args := args) (below := below) (cells := nc) (slots := ns) (ls := lsA) (rest := stv) (pc := pc) (Qc := fun _ _ _ _ => False) (XC := zXC G A ad0 n0 Post) (mc := mc) (ms := ms) (free := A) (by rw [htb, hh]; intro x hx; cases hx) hlk hce hcv hcl (fun t ht hv => zthrow_end hpost hag hP hD hS t hv (by rw [ht]; exact Nat.le_refl _) (fun q _ => by rw [ht])) hS.2.2 hc hs
  intro T hT9 X
  obtain ⟨t, a, b⟩ := h9 T hT9 X
  exact ⟨t, a, F.2 t b⟩
def zNe (C : String) : Prop := C ≠ "java/lang/invoke/MethodHandle" ∧ C ≠ "java/lang/invoke/VarHandle"
/-- what is asked of a callee, once and for all -/
def zOk (Y1 : zY) (n : Nat) : Prop := zwd Y1 ∈ lw_tbl ∧ Cond.initialized Y1.1.cls ∈ lw_tbl ∧ zNe Y1.1.cls ∧ (parseMethodDescriptor Y1.1.desc).map (fun q => q.parameters.length) = some n ∧ Y1.2.2.1 ≤ 15 ∧ Y1.2.2.2.2 = []
def zOkV (Y1 : zY) (n : Nat) : Prop := zOk Y1 n ∧ Cond.instanceMethod Y1.1 ∈ lw_tbl ∧ Cond.selects Y1.1.cls Y1.1 Y1.1 ∈ lw_tbl
def zOkS (Y1 : zY) (n : Nat) : Prop := zOk Y1 n ∧ Cond.static Y1.1 ∈ lw_tbl
def zOkI (Y1 : zY) (n : Nat) : Prop := zOk Y1 n ∧ Cond.instanceMethod Y1.1 ∈ lw_tbl ∧ Y1.1.name = "<init>" ∧ Y1.2.2.2.1 = none
theorem zwd_good (Y1 : zY) : goodWord (zwd Y1) = true := by
  unfold zwd
  cases Y1.2.2.2.2 <;> rfl
theorem z_cb {n idx : Nat} {R : Room} {s : State} {args : Array Value} (hO : zOk Y1 n) (hT : zTab s) (hlink : Cond.methodLink Y.1.cls idx Y1.1 ∈ lw_tbl) (hd : d1 + 1 ≤ d) (hR : d ≤ R.frames ∧ 34 * d ≤ R.locals ∧ mc ≤ R.cells ∧ ms ≤ R.slots) :
    CallB R s args Y.1.cls idx Y1.1 Y1.2.1 Y1.2.2.1 Y1.2.2.2.1 [zwd Y1] (zRm d1 mc1 ms1) mc1 ms1 n := by
  obtain ⟨h1, h2, h3, h4, h5, h6⟩ := hO
  have hw : zwd Y1 = .code Y1.1 Y1.2.1 Y1.2.2.1 Y1.2.2.2.1 := by unfold zwd; rw [h6]
  refine ⟨rfl, rfl, by show d1 + 1 ≤ R.frames; omega, by show 8 + (Y1.2.2.1 + 11) + 34 * d1 ≤ R.locals; omega, fun w hw9 a' U hW => ?_, by rw [hw]; exact List.mem_cons_self, ?_, hT.at h2 (zgood_c _ rfl) _, h3, fun sig h => ?_, hT.at hlink (zgood_c _ rfl) _⟩
  · rw [List.mem_singleton] at hw9
    subst hw9
    exact (zTab_warm hW hT).at h1 (zgood_c _ (zwd_good Y1)) _
  · rw [← hw]
    exact hT.at h1 (zgood_c _ (zwd_good Y1)) _
  · rw [h] at h4
    exact (Option.some.inj h4).symm
theorem z_map (ac ad : Nat → Nat) (as : List zV) : (as.map (zrv ρ)).map (zc ac ad) = as.map (zc ac (fun k => ad (ρ.getD k 0))) := by
  rw [List.map_map]
  congr 1
  funext v
  exact (zc_ren ρ ac ad v).symm
theorem z_cat {ac ad : Nat → Nat} (h : (st.map zcat).sum ≤ 8) : ((st.map (zc ac ad)).map fun v => v.category).sum ≤ 8 := by
  rw [List.map_map]
  have : ((fun v : Value => v.category) ∘ zc ac ad) = zcat := by funext v; exact zcat_c _ _ v
  rw [this]; exact h

theorem wa_callV {q ci : Nat} {fs : List zV} {vc : vw_C} {idx n : Nat} (M : zMet Y1 d1 mc1 ms1 (zR q :: as) w1 Post1) (hO : zOkV Y1 n) (hlink : Cond.methodLink Y.1.cls idx Y1.1 ∈ lw_tbl) (hd : decode Y.2.1 pc = .ok (.invokevirtual idx, 3)) (hp : pc + 3 = pc') (ρ : List Nat) (hsub : ρ.map (fun i => w[i]?) = w1.map fun e => some (zre ρ e)) (hn : ρ.Nodup) (hstk : (as.map (zrv ρ)).reverse ++ zR (ρ.getD q 0) :: st = stk) (hna : as.length = n) (hq : w1[q]? = some (zO ci fs)) (hvc : vwCl[ci]? = some vc) (hcls : vc.1 = Y1.1.cls) (hd1 : d1 + 1 ≤ d) (hcat : (st.map zcat).sum ≤ 8) (hh : Y.2.2.2.2 = []) (hmc : nc + mc1 ≤ mc) (hms : ns + ms1 ≤ ms) (hlen : ∀ o w', Post1 o w' → w'.length = w1.length)
    (kx : ∀ (E : String) (w1' : List zE), Post1 (.inr E) w1' → Post (.inr E) (zins (zre ρ) ρ w1' w))
    (k : ∀ (v : Option zV) (w1' : List zE), Post1 (.inl v) w1' → Wa Y d mc ms n0 Post pc' ls ((v.map (zrv ρ)).toList ++ st) (zins (zre ρ) ρ w1' w) (nc + mc1) (ns + ms1)) : Wa Y d mc ms n0 Post pc ls stk w nc ns := by
  subst hp
  subst hstk
  intro p l e R s m args below meth c G A ad0 Qm C9 F ad H locs lsA hag hst hl
  obtain ⟨hfl, hR, hx, hb, hml, hr9, hown, hlk, hnm, htb, hT, hE, hA⟩ := id C9
  refine z_go C9 F hag hst hl hsub hn hlen (a := ((zR q :: as).map (zc G.2.2.1 (fun k => ad (ρ.getD k 0)))).toArray) ?_ (fun E w1' H1 locs1 q ce hp1 hst1 hce hcv hcl => z_out C9 F (by rw [zins_len]; exact hag) hst1 hh (kx E w1' hp1) hmc hms hce hcv hcl) k
  refine vx_runV (As := as.map (zc G.2.2.1 (fun k => ad (ρ.getD k 0)))) (b := ad (ρ.getD q 0)) (C := Y1.1.cls) (cc := Y.2.1) (nL := Y.2.2.1) (Ts := []) ⟨hx, hb, hml, hown, fun _ h => nomatch h⟩ (M l G (fun k => ad (ρ.getD k 0)) H.size hfl) ⟨z_cb hO.1 hT hlink hd1 hR, hT.at hO.2.1 (zgood_c _ rfl) _, hT.at hO.2.2 (zgood_c _ rfl) _⟩ ⟨(z_pre hsub hn hst hE hT hA).1, ?_, (z_pre (as := zR q :: as) hsub hn hst hE hT hA).2⟩ rfl (by rw [List.length_map]; exact hna) hl.1 ?_ (lv_room (z_cat hcat)) hd ⟨by omega, by omega⟩
  · obtain ⟨cell, g1, g2, g3⟩ := va_recv hE.1.1 (z_partP (ad := ad) hsub hst.1) hvc (zw_get hq)
    exact ⟨cell, g1, g2, by rw [← hcls]; exact g3⟩
  · show List.map _ _ = _
    rw [List.map_append, List.map_reverse, z_map]
    rfl
theorem wa_callK {q : Nat} {idx n : Nat} (M : zMet Y1 d1 mc1 ms1 (zK q :: as) w1 Post1) (hO : zOkV Y1 n) (hlink : Cond.methodLink Y.1.cls idx Y1.1 ∈ lw_tbl) (hd : decode Y.2.1 pc = .ok (.invokevirtual idx, 3)) (hp : pc + 3 = pc') (ρ : List Nat) (hsub : ρ.map (fun i => w[i]?) = w1.map fun e => some (zre ρ e)) (hn : ρ.Nodup) (hstk : (as.map (zrv ρ)).reverse ++ zK q :: st = stk) (hna : as.length = n) (hK : ∀ (G : zG) (A : Nat → Prop) (s : State) (H : Heap), zEnv G A s H → va_O Y1.1.cls (G.2.2.1 q) A s H) (hd1 : d1 + 1 ≤ d) (hcat : (st.map zcat).sum ≤ 8) (hh : Y.2.2.2.2 = []) (hmc : nc + mc1 ≤ mc) (hms : ns + ms1 ≤ ms) (hlen : ∀ o w', Post1 o w' → w'.length = w1.length)
    (kx : ∀ (E : String) (w1' : List zE), Post1 (.inr E) w1' → Post (.inr E) (zins (zre ρ) ρ w1' w))
    (k : ∀ (v : Option zV) (w1' : List zE), Post1 (.inl v) w1' → Wa Y d mc ms n0 Post pc' ls ((v.map (zrv ρ)).toList ++ st) (zins (zre ρ) ρ w1' w) (nc + mc1) (ns + ms1)) : Wa Y d mc ms n0 Post pc ls stk w nc ns := by
  subst hp
  subst hstk
  intro p l e R s m args below meth c G A ad0 Qm C9 F ad H locs lsA hag hst hl
  obtain ⟨hfl, hR, hx, hb, hml, hr9, hown, hlk, hnm, htb, hT, hE, hA⟩ := id C9
  refine z_go C9 F hag hst hl hsub hn hlen (a := ((zK q :: as).map (zc G.2.2.1 (fun k => ad (ρ.getD k 0)))).toArray) ?_ (fun E w1' H1 locs1 q ce hp1 hst1 hce hcv hcl => z_out C9 F (by rw [zins_len]; exact hag) hst1 hh (kx E w1' hp1) hmc hms hce hcv hcl) k
  refine vx_runV (As := as.map (zc G.2.2.1 (fun k => ad (ρ.getD k 0)))) (b := G.2.2.1 q) (C := Y1.1.cls) (cc := Y.2.1) (nL := Y.2.2.1) (Ts := []) ⟨hx, hb, hml, hown, fun _ h => nomatch h⟩ (M l G (fun k => ad (ρ.getD k 0)) H.size hfl) ⟨z_cb hO.1 hT hlink hd1 hR, hT.at hO.2.1 (zgood_c _ rfl) _, hT.at hO.2.2 (zgood_c _ rfl) _⟩ ⟨(z_pre hsub hn hst hE hT hA).1, ?_, (z_pre (as := zK q :: as) hsub hn hst hE hT hA).2⟩ rfl (by rw [List.length_map]; exact hna) hl.1 ?_ (lv_room (z_cat hcat)) hd ⟨by omega, by omega⟩
  · obtain ⟨cell, g1, g2, g3, -⟩ := (hK G A s s.heap hE).kept hst.2.2.2.1
    exact ⟨cell, g1, g2, g3⟩
  · show List.map _ _ = _
    rw [List.map_append, List.map_reverse, z_map]
    rfl
theorem wa_callS {idx n : Nat} (M : zMet Y1 d1 mc1 ms1 as w1 Post1) (hO : zOkS Y1 n) (hlink : Cond.methodLink Y.1.cls idx Y1.1 ∈ lw_tbl) (hd : decode Y.2.1 pc = .ok (.invokestatic idx, 3)) (hp : pc + 3 = pc') (ρ : List Nat) (hsub : ρ.map (fun i => w[i]?) = w1.map fun e => some (zre ρ e)) (hn : ρ.Nodup) (hstk : (as.map (zrv ρ)).reverse ++ st = stk) (hna : as.length = n) (hd1 : d1 + 1 ≤ d) (hcat : (st.map zcat).sum ≤ 8) (hh : Y.2.2.2.2 = []) (hmc : nc + mc1 ≤ mc) (hms : ns + ms1 ≤ ms) (hlen : ∀ o w', Post1 o w' → w'.length = w1.length)
    (kx : ∀ (E : String) (w1' : List zE), Post1 (.inr E) w1' → Post (.inr E) (zins (zre ρ) ρ w1' w))
    (k : ∀ (v : Option zV) (w1' : List zE), Post1 (.inl v) w1' → Wa Y d mc ms n0 Post pc' ls ((v.map (zrv ρ)).toList ++ st) (zins (zre ρ) ρ w1' w) (nc + mc1) (ns + ms1)) : Wa Y d mc ms n0 Post pc ls stk w nc ns := by
  subst hp
  subst hstk
  intro p l e R s m args below meth c G A ad0 Qm C9 F ad H locs lsA hag hst hl
  obtain ⟨hfl, hR, hx, hb, hml, hr9, hown, hlk, hnm, htb, hT, hE, hA⟩ := id C9
  refine z_go C9 F hag hst hl hsub hn hlen (a := (as.map (zc G.2.2.1 (fun k => ad (ρ.getD k 0)))).toArray) ?_ (fun E w1' H1 locs1 q ce hp1 hst1 hce hcv hcl => z_out C9 F (by rw [zins_len]; exact hag) hst1 hh (kx E w1' hp1) hmc hms hce hcv hcl) k
  refine vx_runS (As := as.map (zc G.2.2.1 (fun k => ad (ρ.getD k 0)))) (cc := Y.2.1) (nL := Y.2.2.1) (Ts := []) ⟨hx, hb, hml, hown, fun _ h => nomatch h⟩ (M l G (fun k => ad (ρ.getD k 0)) H.size hfl) ⟨z_cb hO.1 hT hlink hd1 hR, hT.at hO.2 (zgood_c _ rfl) _⟩ (z_pre hsub hn hst hE hT hA) rfl (by rw [List.length_map]; exact hna) hl.1 ?_ (lv_room (z_cat hcat)) hd ⟨by omega, by omega⟩
  · show List.map _ _ = _
    rw [List.map_append, List.map_reverse, z_map]
end ZC
end
