/-! TABLES, by program: classes, methods, links -/
theorem zc_in (ws : List Cond) (ps : List Nat) (hp : ws = ps.filterMap (fun i => lw_tbl[i]?)) (h : ws.all (fun w => goodWord w || zt_k w) = true) : ∀ w ∈ ws, w ∈ lw_tbl ∧ (goodWord w || zt_k w) = true := by
  intro w hw
  refine ⟨?_, List.all_eq_true.mp h w hw⟩
  rw [hp] at hw
  obtain ⟨i, -, hi⟩ := List.mem_filterMap.mp hw
  exact List.mem_of_getElem? hi
theorem zc_X1 : zCl 0 RX1 TX1 3 tyX1 := ⟨rfl, zc_in _ [150, 152, 154] (by decide +kernel) (by decide +kernel), tyX1_ok, nmX1, by decide +kernel, List.mem_of_getElem? (i := 139) (by decide +kernel), List.mem_of_getElem? (i := 62) (by decide +kernel)⟩
theorem zc_X3 : zCl 1 RX3 TX3 11 tyX3 := ⟨rfl, zc_in _ [201, 203, 205, 207, 209, 211, 213, 215, 217, 219, 221] (by decide +kernel) (by decide +kernel), tyX3_ok, nmX3, by decide +kernel, List.mem_of_getElem? (i := 183) (by decide +kernel), List.mem_of_getElem? (i := 64) (by decide +kernel)⟩
theorem zc_X6 : zCl 2 RX6 TX6 6 tyX6 := ⟨rfl, zc_in _ [169, 171, 173, 175, 177, 179] (by decide +kernel) (by decide +kernel), tyX6_ok, nmX6, by decide +kernel, List.mem_of_getElem? (i := 158) (by decide +kernel), List.mem_of_getElem? (i := 63) (by decide +kernel)⟩
theorem zc_X7 : zCl 3 RX7 TX7 2 tyX7 := ⟨rfl, zc_in _ [101, 103] (by decide +kernel) (by decide +kernel), tyX7_ok, nmX7, by decide +kernel, List.mem_of_getElem? (i := 94) (by decide +kernel), List.mem_of_getElem? (i := 60) (by decide +kernel)⟩
theorem zc_X8 : zCl 4 RX8 TX8 7 tyX8 := ⟨rfl, zc_in _ [122, 124, 126, 128, 130, 132, 134] (by decide +kernel) (by decide +kernel), tyX8_ok, nmX8, by decide +kernel, List.mem_of_getElem? (i := 108) (by decide +kernel), List.mem_of_getElem? (i := 61) (by decide +kernel)⟩
theorem zc_X9 : zCl 5 RX9 TX9 10 tyX9 := ⟨rfl, zc_in _ [234, 236, 238, 240, 242, 244, 246, 248, 250, 252] (by decide +kernel) (by decide +kernel), tyX9_ok, nmX9, by decide +kernel, List.mem_of_getElem? (i := 86) (by decide +kernel), List.mem_of_getElem? (i := 59) (by decide +kernel)⟩
theorem zc_X10 : zCl 6 RX10 TX10 24 tyX10 := ⟨rfl, zc_in _ [1102, 1104, 1106, 1108, 1110, 1112, 1114, 1116, 1118, 1120, 1122, 1124, 1126, 1128, 1130, 1132, 1134, 1136, 1138, 1140, 1142, 1144, 1146, 1148] (by decide +kernel) (by decide +kernel), tyX10_ok, nmX10, by decide +kernel, List.mem_of_getElem? (i := 1073) (by decide +kernel), List.mem_of_getElem? (i := 65) (by decide +kernel)⟩
abbrev q_J0_charAt_5068e : zY := (yJ0_charAt_5068e, cJ0_charAt_5068e, 2, (some .char), [])
theorem ok_J0_charAt_5068e : zOkV q_J0_charAt_5068e 1 := ⟨⟨List.mem_of_getElem? (i := 408) (by decide +kernel), List.mem_of_getElem? (i := 72) (by decide +kernel), ⟨by decide +kernel, by decide +kernel⟩, by decide +kernel, by decide, rfl⟩, List.mem_of_getElem? (i := 406) (by decide +kernel), List.mem_of_getElem? (i := 407) (by decide +kernel)⟩
abbrev q_J0_checkBoundsBeginEnd_23922 : zY := (yJ0_checkBoundsBeginEnd_23922, cJ0_checkBoundsBeginEnd_23922, 3, none, [])
theorem ok_J0_checkBoundsBeginEnd_23922 : zOkS q_J0_checkBoundsBeginEnd_23922 3 := ⟨⟨List.mem_of_getElem? (i := 354) (by decide +kernel), List.mem_of_getElem? (i := 72) (by decide +kernel), ⟨by decide +kernel, by decide +kernel⟩, by decide +kernel, by decide, rfl⟩, List.mem_of_getElem? (i := 353) (by decide +kernel)⟩
abbrev q_J0_checkIndex_df160 : zY := (yJ0_checkIndex_df160, cJ0_checkIndex_df160, 2, none, [])
theorem ok_J0_checkIndex_df160 : zOkS q_J0_checkIndex_df160 2 := ⟨⟨List.mem_of_getElem? (i := 414) (by decide +kernel), List.mem_of_getElem? (i := 72) (by decide +kernel), ⟨by decide +kernel, by decide +kernel⟩, by decide +kernel, by decide, rfl⟩, List.mem_of_getElem? (i := 413) (by decide +kernel)⟩
abbrev q_J0_coder_7d493 : zY := (yJ0_coder_7d493, cJ0_coder_7d493, 1, (some .byte), [])
theorem ok_J0_coder_7d493 : zOkV q_J0_coder_7d493 0 := ⟨⟨List.mem_of_getElem? (i := 321) (by decide +kernel), List.mem_of_getElem? (i := 72) (by decide +kernel), ⟨by decide +kernel, by decide +kernel⟩, by decide +kernel, by decide, rfl⟩, List.mem_of_getElem? (i := 319) (by decide +kernel), List.mem_of_getElem? (i := 320) (by decide +kernel)⟩
abbrev q_J0_indexOf_0f7a4 : zY := (yJ0_indexOf_0f7a4, cJ0_indexOf_0f7a4, 2, (some .int), [])
theorem ok_J0_indexOf_0f7a4 : zOkV q_J0_indexOf_0f7a4 1 := ⟨⟨List.mem_of_getElem? (i := 303) (by decide +kernel), List.mem_of_getElem? (i := 72) (by decide +kernel), ⟨by decide +kernel, by decide +kernel⟩, by decide +kernel, by decide, rfl⟩, List.mem_of_getElem? (i := 301) (by decide +kernel), List.mem_of_getElem? (i := 302) (by decide +kernel)⟩
abbrev q_J0_indexOf_7cf53 : zY := (yJ0_indexOf_7cf53, cJ0_indexOf_7cf53, 3, (some .int), [])
theorem ok_J0_indexOf_7cf53 : zOkV q_J0_indexOf_7cf53 2 := ⟨⟨List.mem_of_getElem? (i := 307) (by decide +kernel), List.mem_of_getElem? (i := 72) (by decide +kernel), ⟨by decide +kernel, by decide +kernel⟩, by decide +kernel, by decide, rfl⟩, List.mem_of_getElem? (i := 305) (by decide +kernel), List.mem_of_getElem? (i := 306) (by decide +kernel)⟩
abbrev q_J0_isLatin1_aae02 : zY := (yJ0_isLatin1_aae02, cJ0_isLatin1_aae02, 1, (some .boolean), [])
theorem ok_J0_isLatin1_aae02 : zOkV q_J0_isLatin1_aae02 0 := ⟨⟨List.mem_of_getElem? (i := 311) (by decide +kernel), List.mem_of_getElem? (i := 72) (by decide +kernel), ⟨by decide +kernel, by decide +kernel⟩, by decide +kernel, by decide, rfl⟩, List.mem_of_getElem? (i := 309) (by decide +kernel), List.mem_of_getElem? (i := 310) (by decide +kernel)⟩
abbrev q_J0_length_8abf5 : zY := (yJ0_length_8abf5, cJ0_length_8abf5, 1, (some .int), [])
theorem ok_J0_length_8abf5 : zOkV q_J0_length_8abf5 0 := ⟨⟨List.mem_of_getElem? (i := 317) (by decide +kernel), List.mem_of_getElem? (i := 72) (by decide +kernel), ⟨by decide +kernel, by decide +kernel⟩, by decide +kernel, by decide, rfl⟩, List.mem_of_getElem? (i := 315) (by decide +kernel), List.mem_of_getElem? (i := 316) (by decide +kernel)⟩
abbrev q_J11_highSurrogate_5068e : zY := (yJ11_highSurrogate_5068e, cJ11_highSurrogate_5068e, 1, (some .char), [])
theorem ok_J11_highSurrogate_5068e : zOkS q_J11_highSurrogate_5068e 1 := ⟨⟨List.mem_of_getElem? (i := 380) (by decide +kernel), List.mem_of_getElem? (i := 77) (by decide +kernel), ⟨by decide +kernel, by decide +kernel⟩, by decide +kernel, by decide, rfl⟩, List.mem_of_getElem? (i := 379) (by decide +kernel)⟩
abbrev q_J11_isValidCodePoint_9a6ad : zY := (yJ11_isValidCodePoint_9a6ad, cJ11_isValidCodePoint_9a6ad, 2, (some .boolean), [])
theorem ok_J11_isValidCodePoint_9a6ad : zOkS q_J11_isValidCodePoint_9a6ad 1 := ⟨⟨List.mem_of_getElem? (i := 377) (by decide +kernel), List.mem_of_getElem? (i := 77) (by decide +kernel), ⟨by decide +kernel, by decide +kernel⟩, by decide +kernel, by decide, rfl⟩, List.mem_of_getElem? (i := 376) (by decide +kernel)⟩
abbrev q_J11_lowSurrogate_5068e : zY := (yJ11_lowSurrogate_5068e, cJ11_lowSurrogate_5068e, 1, (some .char), [])
theorem ok_J11_lowSurrogate_5068e : zOkS q_J11_lowSurrogate_5068e 1 := ⟨⟨List.mem_of_getElem? (i := 384) (by decide +kernel), List.mem_of_getElem? (i := 77) (by decide +kernel), ⟨by decide +kernel, by decide +kernel⟩, by decide +kernel, by decide, rfl⟩, List.mem_of_getElem? (i := 383) (by decide +kernel)⟩
abbrev q_J1_canEncode_9a6ad : zY := (yJ1_canEncode_9a6ad, cJ1_canEncode_9a6ad, 1, (some .boolean), [])
theorem ok_J1_canEncode_9a6ad : zOkS q_J1_canEncode_9a6ad 1 := ⟨⟨List.mem_of_getElem? (i := 327) (by decide +kernel), List.mem_of_getElem? (i := 73) (by decide +kernel), ⟨by decide +kernel, by decide +kernel⟩, by decide +kernel, by decide, rfl⟩, List.mem_of_getElem? (i := 326) (by decide +kernel)⟩
abbrev q_J1_charAt_3b067 : zY := (yJ1_charAt_3b067, cJ1_charAt_3b067, 2, (some .char), [])
theorem ok_J1_charAt_3b067 : zOkS q_J1_charAt_3b067 2 := ⟨⟨List.mem_of_getElem? (i := 411) (by decide +kernel), List.mem_of_getElem? (i := 73) (by decide +kernel), ⟨by decide +kernel, by decide +kernel⟩, by decide +kernel, by decide, rfl⟩, List.mem_of_getElem? (i := 410) (by decide +kernel)⟩
abbrev q_J1_indexOfChar_4cfef : zY := (yJ1_indexOfChar_4cfef, cJ1_indexOfChar_4cfef, 6, (some .int), [])
theorem ok_J1_indexOfChar_4cfef : zOkS q_J1_indexOfChar_4cfef 4 := ⟨⟨List.mem_of_getElem? (i := 336) (by decide +kernel), List.mem_of_getElem? (i := 73) (by decide +kernel), ⟨by decide +kernel, by decide +kernel⟩, by decide +kernel, by decide, rfl⟩, List.mem_of_getElem? (i := 335) (by decide +kernel)⟩
abbrev q_J1_indexOf_4cfef : zY := (yJ1_indexOf_4cfef, cJ1_indexOf_4cfef, 4, (some .int), [])
theorem ok_J1_indexOf_4cfef : zOkS q_J1_indexOf_4cfef 4 := ⟨⟨List.mem_of_getElem? (i := 324) (by decide +kernel), List.mem_of_getElem? (i := 73) (by decide +kernel), ⟨by decide +kernel, by decide +kernel⟩, by decide +kernel, by decide, rfl⟩, List.mem_of_getElem? (i := 323) (by decide +kernel)⟩
abbrev q_J2_charAt_3b067 : zY := (yJ2_charAt_3b067, cJ2_charAt_3b067, 2, (some .char), [])
theorem ok_J2_charAt_3b067 : zOkS q_J2_charAt_3b067 2 := ⟨⟨List.mem_of_getElem? (i := 420) (by decide +kernel), List.mem_of_getElem? (i := 75) (by decide +kernel), ⟨by decide +kernel, by decide +kernel⟩, by decide +kernel, by decide, rfl⟩, List.mem_of_getElem? (i := 419) (by decide +kernel)⟩
abbrev q_J2_checkBoundsBeginEnd_d044e : zY := (yJ2_checkBoundsBeginEnd_d044e, cJ2_checkBoundsBeginEnd_d044e, 3, none, [])
theorem ok_J2_checkBoundsBeginEnd_d044e : zOkS q_J2_checkBoundsBeginEnd_d044e 3 := ⟨⟨List.mem_of_getElem? (i := 348) (by decide +kernel), List.mem_of_getElem? (i := 75) (by decide +kernel), ⟨by decide +kernel, by decide +kernel⟩, by decide +kernel, by decide, rfl⟩, List.mem_of_getElem? (i := 347) (by decide +kernel)⟩
abbrev q_J2_checkIndex_2214a : zY := (yJ2_checkIndex_2214a, cJ2_checkIndex_2214a, 2, none, [])
theorem ok_J2_checkIndex_2214a : zOkS q_J2_checkIndex_2214a 2 := ⟨⟨List.mem_of_getElem? (i := 423) (by decide +kernel), List.mem_of_getElem? (i := 75) (by decide +kernel), ⟨by decide +kernel, by decide +kernel⟩, by decide +kernel, by decide, rfl⟩, List.mem_of_getElem? (i := 422) (by decide +kernel)⟩
abbrev q_J2_getChar_3b067 : zY := (yJ2_getChar_3b067, cJ2_getChar_3b067, 2, (some .char), [])
theorem ok_J2_getChar_3b067 : zOkS q_J2_getChar_3b067 2 := ⟨⟨List.mem_of_getElem? (i := 365) (by decide +kernel), List.mem_of_getElem? (i := 75) (by decide +kernel), ⟨by decide +kernel, by decide +kernel⟩, by decide +kernel, by decide, rfl⟩, List.mem_of_getElem? (i := 364) (by decide +kernel)⟩
abbrev q_J2_indexOfCharUnsafe_4cfef : zY := (yJ2_indexOfCharUnsafe_4cfef, cJ2_indexOfCharUnsafe_4cfef, 5, (some .int), [])
theorem ok_J2_indexOfCharUnsafe_4cfef : zOkS q_J2_indexOfCharUnsafe_4cfef 4 := ⟨⟨List.mem_of_getElem? (i := 362) (by decide +kernel), List.mem_of_getElem? (i := 75) (by decide +kernel), ⟨by decide +kernel, by decide +kernel⟩, by decide +kernel, by decide, rfl⟩, List.mem_of_getElem? (i := 361) (by decide +kernel)⟩
abbrev q_J2_indexOfChar_4cfef : zY := (yJ2_indexOfChar_4cfef, cJ2_indexOfChar_4cfef, 4, (some .int), [])
theorem ok_J2_indexOfChar_4cfef : zOkS q_J2_indexOfChar_4cfef 4 := ⟨⟨List.mem_of_getElem? (i := 345) (by decide +kernel), List.mem_of_getElem? (i := 75) (by decide +kernel), ⟨by decide +kernel, by decide +kernel⟩, by decide +kernel, by decide, rfl⟩, List.mem_of_getElem? (i := 344) (by decide +kernel)⟩
abbrev q_J2_indexOfSupplementary_4cfef : zY := (yJ2_indexOfSupplementary_4cfef, cJ2_indexOfSupplementary_4cfef, 7, (some .int), [])
theorem ok_J2_indexOfSupplementary_4cfef : zOkS q_J2_indexOfSupplementary_4cfef 4 := ⟨⟨List.mem_of_getElem? (i := 374) (by decide +kernel), List.mem_of_getElem? (i := 75) (by decide +kernel), ⟨by decide +kernel, by decide +kernel⟩, by decide +kernel, by decide, rfl⟩, List.mem_of_getElem? (i := 373) (by decide +kernel)⟩
abbrev q_J2_indexOf_4cfef : zY := (yJ2_indexOf_4cfef, cJ2_indexOf_4cfef, 4, (some .int), [])
theorem ok_J2_indexOf_4cfef : zOkS q_J2_indexOf_4cfef 4 := ⟨⟨List.mem_of_getElem? (i := 339) (by decide +kernel), List.mem_of_getElem? (i := 75) (by decide +kernel), ⟨by decide +kernel, by decide +kernel⟩, by decide +kernel, by decide, rfl⟩, List.mem_of_getElem? (i := 338) (by decide +kernel)⟩
abbrev q_J2_length_9d52b : zY := (yJ2_length_9d52b, cJ2_length_9d52b, 1, (some .int), [])
theorem ok_J2_length_9d52b : zOkS q_J2_length_9d52b 1 := ⟨⟨List.mem_of_getElem? (i := 351) (by decide +kernel), List.mem_of_getElem? (i := 75) (by decide +kernel), ⟨by decide +kernel, by decide +kernel⟩, by decide +kernel, by decide, rfl⟩, List.mem_of_getElem? (i := 350) (by decide +kernel)⟩
abbrev q_J3_checkFromToIndex_8c36e : zY := (yJ3_checkFromToIndex_8c36e, cJ3_checkFromToIndex_8c36e, 4, (some .int), [])
theorem ok_J3_checkFromToIndex_8c36e : zOkS q_J3_checkFromToIndex_8c36e 4 := ⟨⟨List.mem_of_getElem? (i := 359) (by decide +kernel), List.mem_of_getElem? (i := 76) (by decide +kernel), ⟨by decide +kernel, by decide +kernel⟩, by decide +kernel, by decide, rfl⟩, List.mem_of_getElem? (i := 358) (by decide +kernel)⟩
abbrev q_J3_checkIndex_8e157 : zY := (yJ3_checkIndex_8e157, cJ3_checkIndex_8e157, 3, (some .int), [])
theorem ok_J3_checkIndex_8e157 : zOkS q_J3_checkIndex_8e157 3 := ⟨⟨List.mem_of_getElem? (i := 417) (by decide +kernel), List.mem_of_getElem? (i := 76) (by decide +kernel), ⟨by decide +kernel, by decide +kernel⟩, by decide +kernel, by decide, rfl⟩, List.mem_of_getElem? (i := 416) (by decide +kernel)⟩
abbrev q_J6_bitCount_0f7a4 : zY := (yJ6_bitCount_0f7a4, cJ6_bitCount_0f7a4, 1, (some .int), [])
theorem ok_J6_bitCount_0f7a4 : zOkS q_J6_bitCount_0f7a4 1 := ⟨⟨List.mem_of_getElem? (i := 921) (by decide +kernel), List.mem_of_getElem? (i := 83) (by decide +kernel), ⟨by decide +kernel, by decide +kernel⟩, by decide +kernel, by decide, rfl⟩, List.mem_of_getElem? (i := 920) (by decide +kernel)⟩
abbrev q_J9_abs_0f7a4 : zY := (yJ9_abs_0f7a4, cJ9_abs_0f7a4, 1, (some .int), [])
theorem ok_J9_abs_0f7a4 : zOkS q_J9_abs_0f7a4 1 := ⟨⟨List.mem_of_getElem? (i := 833) (by decide +kernel), List.mem_of_getElem? (i := 74) (by decide +kernel), ⟨by decide +kernel, by decide +kernel⟩, by decide +kernel, by decide, rfl⟩, List.mem_of_getElem? (i := 832) (by decide +kernel)⟩
abbrev q_J9_floorDiv_7cf53 : zY := (yJ9_floorDiv_7cf53, cJ9_floorDiv_7cf53, 3, (some .int), [])
theorem ok_J9_floorDiv_7cf53 : zOkS q_J9_floorDiv_7cf53 2 := ⟨⟨List.mem_of_getElem? (i := 830) (by decide +kernel), List.mem_of_getElem? (i := 74) (by decide +kernel), ⟨by decide +kernel, by decide +kernel⟩, by decide +kernel, by decide, rfl⟩, List.mem_of_getElem? (i := 829) (by decide +kernel)⟩
abbrev q_J9_floorMod_7cf53 : zY := (yJ9_floorMod_7cf53, cJ9_floorMod_7cf53, 3, (some .int), [])
theorem ok_J9_floorMod_7cf53 : zOkS q_J9_floorMod_7cf53 2 := ⟨⟨List.mem_of_getElem? (i := 483) (by decide +kernel), List.mem_of_getElem? (i := 74) (by decide +kernel), ⟨by decide +kernel, by decide +kernel⟩, by decide +kernel, by decide, rfl⟩, List.mem_of_getElem? (i := 482) (by decide +kernel)⟩
abbrev q_J9_max_7cf53 : zY := (yJ9_max_7cf53, cJ9_max_7cf53, 2, (some .int), [])
theorem ok_J9_max_7cf53 : zOkS q_J9_max_7cf53 2 := ⟨⟨List.mem_of_getElem? (i := 330) (by decide +kernel), List.mem_of_getElem? (i := 74) (by decide +kernel), ⟨by decide +kernel, by decide +kernel⟩, by decide +kernel, by decide, rfl⟩, List.mem_of_getElem? (i := 329) (by decide +kernel)⟩
abbrev q_J9_min_7cf53 : zY := (yJ9_min_7cf53, cJ9_min_7cf53, 2, (some .int), [])
theorem ok_J9_min_7cf53 : zOkS q_J9_min_7cf53 2 := ⟨⟨List.mem_of_getElem? (i := 333) (by decide +kernel), List.mem_of_getElem? (i := 74) (by decide +kernel), ⟨by decide +kernel, by decide +kernel⟩, by decide +kernel, by decide, rfl⟩, List.mem_of_getElem? (i := 332) (by decide +kernel)⟩
abbrev q_L_addChord : zY := (yL_addChord, cL_addChord, 5, (some .int), [(0, 10, 13, 23), (0, 10, 17, 15)])
theorem ok_L_addChord : zOkH q_L_addChord 4 := ⟨List.mem_of_getElem? (i := 870) (by decide +kernel), List.mem_of_getElem? (i := 58) (by decide +kernel), ⟨by decide +kernel, by decide +kernel⟩, by decide +kernel, by decide, List.mem_of_getElem? (i := 869) (by decide +kernel)⟩
abbrev q_L_bassOf : zY := (yL_bassOf, cL_bassOf, 4, (some .int), [(0, 9, 12, 23)])
theorem ok_L_bassOf : zOkH q_L_bassOf 3 := ⟨List.mem_of_getElem? (i := 802) (by decide +kernel), List.mem_of_getElem? (i := 58) (by decide +kernel), ⟨by decide +kernel, by decide +kernel⟩, by decide +kernel, by decide, List.mem_of_getElem? (i := 801) (by decide +kernel)⟩
abbrev q_L_columnOf : zY := (yL_columnOf, cL_columnOf, 4, (some .int), [(0, 9, 12, 23)])
theorem ok_L_columnOf : zOkH q_L_columnOf 3 := ⟨List.mem_of_getElem? (i := 781) (by decide +kernel), List.mem_of_getElem? (i := 58) (by decide +kernel), ⟨by decide +kernel, by decide +kernel⟩, by decide +kernel, by decide, List.mem_of_getElem? (i := 780) (by decide +kernel)⟩
abbrev q_L_commonTones : zY := (yL_commonTones, cL_commonTones, 4, (some .int), [(0, 9, 12, 23)])
theorem ok_L_commonTones : zOkH q_L_commonTones 3 := ⟨List.mem_of_getElem? (i := 901) (by decide +kernel), List.mem_of_getElem? (i := 58) (by decide +kernel), ⟨by decide +kernel, by decide +kernel⟩, by decide +kernel, by decide, List.mem_of_getElem? (i := 900) (by decide +kernel)⟩
abbrev q_L_degree : zY := (yL_degree, cL_degree, 4, (some .int), [(0, 9, 12, 23)])
theorem ok_L_degree : zOkH q_L_degree 3 := ⟨List.mem_of_getElem? (i := 927) (by decide +kernel), List.mem_of_getElem? (i := 58) (by decide +kernel), ⟨by decide +kernel, by decide +kernel⟩, by decide +kernel, by decide, List.mem_of_getElem? (i := 926) (by decide +kernel)⟩
abbrev q_L_difficulty : zY := (yL_difficulty, cL_difficulty, 4, (some .int), [(0, 9, 12, 13)])
theorem ok_L_difficulty : zOkH q_L_difficulty 3 := ⟨List.mem_of_getElem? (i := 973) (by decide +kernel), List.mem_of_getElem? (i := 58) (by decide +kernel), ⟨by decide +kernel, by decide +kernel⟩, by decide +kernel, by decide, List.mem_of_getElem? (i := 972) (by decide +kernel)⟩
abbrev q_L_lineOf : zY := (yL_lineOf, cL_lineOf, 4, (some .int), [(0, 9, 12, 23)])
theorem ok_L_lineOf : zOkH q_L_lineOf 3 := ⟨List.mem_of_getElem? (i := 768) (by decide +kernel), List.mem_of_getElem? (i := 58) (by decide +kernel), ⟨by decide +kernel, by decide +kernel⟩, by decide +kernel, by decide, List.mem_of_getElem? (i := 767) (by decide +kernel)⟩
abbrev q_L_lyric : zY := (yL_lyric, cL_lyric, 5, (some .int), [(0, 10, 13, 23)])
theorem ok_L_lyric : zOkH q_L_lyric 4 := ⟨List.mem_of_getElem? (i := 759) (by decide +kernel), List.mem_of_getElem? (i := 58) (by decide +kernel), ⟨by decide +kernel, by decide +kernel⟩, by decide +kernel, by decide, List.mem_of_getElem? (i := 758) (by decide +kernel)⟩
abbrev q_L_lyrics : zY := (yL_lyrics, cL_lyrics, 4, (some .int), [(0, 9, 12, 23)])
theorem ok_L_lyrics : zOkH q_L_lyrics 3 := ⟨List.mem_of_getElem? (i := 726) (by decide +kernel), List.mem_of_getElem? (i := 58) (by decide +kernel), ⟨by decide +kernel, by decide +kernel⟩, by decide +kernel, by decide, List.mem_of_getElem? (i := 725) (by decide +kernel)⟩
abbrev q_L_moveChord : zY := (yL_moveChord, cL_moveChord, 5, (some .int), [(0, 10, 13, 23)])
theorem ok_L_moveChord : zOkH q_L_moveChord 4 := ⟨List.mem_of_getElem? (i := 894) (by decide +kernel), List.mem_of_getElem? (i := 58) (by decide +kernel), ⟨by decide +kernel, by decide +kernel⟩, by decide +kernel, by decide, List.mem_of_getElem? (i := 893) (by decide +kernel)⟩
abbrev q_L_nameChar : zY := (yL_nameChar, cL_nameChar, 5, (some .int), [(0, 10, 13, 23)])
theorem ok_L_nameChar : zOkH q_L_nameChar 4 := ⟨List.mem_of_getElem? (i := 809) (by decide +kernel), List.mem_of_getElem? (i := 58) (by decide +kernel), ⟨by decide +kernel, by decide +kernel⟩, by decide +kernel, by decide, List.mem_of_getElem? (i := 808) (by decide +kernel)⟩
abbrev q_L_pairs : zY := (yL_pairs, cL_pairs, 4, (some .int), [(0, 9, 12, 23)])
theorem ok_L_pairs : zOkH q_L_pairs 3 := ⟨List.mem_of_getElem? (i := 982) (by decide +kernel), List.mem_of_getElem? (i := 58) (by decide +kernel), ⟨by decide +kernel, by decide +kernel⟩, by decide +kernel, by decide, List.mem_of_getElem? (i := 981) (by decide +kernel)⟩
abbrev q_L_qualityOf : zY := (yL_qualityOf, cL_qualityOf, 4, (some .int), [(0, 9, 12, 23)])
theorem ok_L_qualityOf : zOkH q_L_qualityOf 3 := ⟨List.mem_of_getElem? (i := 795) (by decide +kernel), List.mem_of_getElem? (i := 58) (by decide +kernel), ⟨by decide +kernel, by decide +kernel⟩, by decide +kernel, by decide, List.mem_of_getElem? (i := 794) (by decide +kernel)⟩
abbrev q_L_removeChord : zY := (yL_removeChord, cL_removeChord, 4, (some .int), [(0, 9, 12, 23)])
theorem ok_L_removeChord : zOkH q_L_removeChord 3 := ⟨List.mem_of_getElem? (i := 883) (by decide +kernel), List.mem_of_getElem? (i := 58) (by decide +kernel), ⟨by decide +kernel, by decide +kernel⟩, by decide +kernel, by decide, List.mem_of_getElem? (i := 882) (by decide +kernel)⟩
abbrev q_L_rootOf : zY := (yL_rootOf, cL_rootOf, 4, (some .int), [(0, 9, 12, 23)])
theorem ok_L_rootOf : zOkH q_L_rootOf 3 := ⟨List.mem_of_getElem? (i := 788) (by decide +kernel), List.mem_of_getElem? (i := 58) (by decide +kernel), ⟨by decide +kernel, by decide +kernel⟩, by decide +kernel, by decide, List.mem_of_getElem? (i := 787) (by decide +kernel)⟩
abbrev q_L_rowChar : zY := (yL_rowChar, cL_rowChar, 7, (some .int), [(0, 14, 17, 23)])
theorem ok_L_rowChar : zOkH q_L_rowChar 6 := ⟨List.mem_of_getElem? (i := 1051) (by decide +kernel), List.mem_of_getElem? (i := 58) (by decide +kernel), ⟨by decide +kernel, by decide +kernel⟩, by decide +kernel, by decide, List.mem_of_getElem? (i := 1050) (by decide +kernel)⟩
abbrev q_L_rowLength : zY := (yL_rowLength, cL_rowLength, 6, (some .int), [(0, 12, 15, 23)])
theorem ok_L_rowLength : zOkH q_L_rowLength 5 := ⟨List.mem_of_getElem? (i := 1038) (by decide +kernel), List.mem_of_getElem? (i := 58) (by decide +kernel), ⟨by decide +kernel, by decide +kernel⟩, by decide +kernel, by decide, List.mem_of_getElem? (i := 1037) (by decide +kernel)⟩
abbrev q_L_score : zY := (yL_score, cL_score, 5, (some .int), [(0, 10, 13, 13)])
theorem ok_L_score : zOkH q_L_score 4 := ⟨List.mem_of_getElem? (i := 952) (by decide +kernel), List.mem_of_getElem? (i := 58) (by decide +kernel), ⟨by decide +kernel, by decide +kernel⟩, by decide +kernel, by decide, List.mem_of_getElem? (i := 951) (by decide +kernel)⟩
abbrev q_L_setChord : zY := (yL_setChord, cL_setChord, 4, (some .int), [(0, 9, 12, 23)])
theorem ok_L_setChord : zOkH q_L_setChord 3 := ⟨List.mem_of_getElem? (i := 846) (by decide +kernel), List.mem_of_getElem? (i := 58) (by decide +kernel), ⟨by decide +kernel, by decide +kernel⟩, by decide +kernel, by decide, List.mem_of_getElem? (i := 845) (by decide +kernel)⟩
abbrev q_L_setKey : zY := (yL_setKey, cL_setKey, 5, (some .int), [(0, 10, 13, 13)])
theorem ok_L_setKey : zOkH q_L_setKey 4 := ⟨List.mem_of_getElem? (i := 940) (by decide +kernel), List.mem_of_getElem? (i := 58) (by decide +kernel), ⟨by decide +kernel, by decide +kernel⟩, by decide +kernel, by decide, List.mem_of_getElem? (i := 939) (by decide +kernel)⟩
abbrev q_L_setWidth : zY := (yL_setWidth, cL_setWidth, 4, (some .int), [(0, 9, 12, 13)])
theorem ok_L_setWidth : zOkH q_L_setWidth 3 := ⟨List.mem_of_getElem? (i := 718) (by decide +kernel), List.mem_of_getElem? (i := 58) (by decide +kernel), ⟨by decide +kernel, by decide +kernel⟩, by decide +kernel, by decide, List.mem_of_getElem? (i := 717) (by decide +kernel)⟩
abbrev q_L_transpose : zY := (yL_transpose, cL_transpose, 4, (some .int), [(0, 9, 12, 13)])
theorem ok_L_transpose : zOkH q_L_transpose 3 := ⟨List.mem_of_getElem? (i := 960) (by decide +kernel), List.mem_of_getElem? (i := 58) (by decide +kernel), ⟨by decide +kernel, by decide +kernel⟩, by decide +kernel, by decide, List.mem_of_getElem? (i := 959) (by decide +kernel)⟩
abbrev q_L_type : zY := (yL_type, cL_type, 4, (some .int), [(0, 9, 12, 13), (0, 9, 15, 15)])
theorem ok_L_type : zOkH q_L_type 3 := ⟨List.mem_of_getElem? (i := 622) (by decide +kernel), List.mem_of_getElem? (i := 58) (by decide +kernel), ⟨by decide +kernel, by decide +kernel⟩, by decide +kernel, by decide, List.mem_of_getElem? (i := 621) (by decide +kernel)⟩
abbrev q_L_undo : zY := (yL_undo, cL_undo, 3, (some .int), [(0, 8, 11, 15)])
theorem ok_L_undo : zOkH q_L_undo 2 := ⟨List.mem_of_getElem? (i := 1058) (by decide +kernel), List.mem_of_getElem? (i := 58) (by decide +kernel), ⟨by decide +kernel, by decide +kernel⟩, by decide +kernel, by decide, List.mem_of_getElem? (i := 1057) (by decide +kernel)⟩
abbrev q_X0_difficultyAt : zY := (yX0_difficultyAt, cX0_difficultyAt, 7, (some .int), [])
theorem ok_X0_difficultyAt : zOkS q_X0_difficultyAt 2 := ⟨⟨List.mem_of_getElem? (i := 591) (by decide +kernel), List.mem_of_getElem? (i := 84) (by decide +kernel), ⟨by decide +kernel, by decide +kernel⟩, by decide +kernel, by decide, rfl⟩, List.mem_of_getElem? (i := 590) (by decide +kernel)⟩
abbrev q_X0_easiestFret : zY := (yX0_easiestFret, cX0_easiestFret, 5, (some .int), [])
theorem ok_X0_easiestFret : zOkS q_X0_easiestFret 1 := ⟨⟨List.mem_of_getElem? (i := 588) (by decide +kernel), List.mem_of_getElem? (i := 84) (by decide +kernel), ⟨by decide +kernel, by decide +kernel⟩, by decide +kernel, by decide, rfl⟩, List.mem_of_getElem? (i := 587) (by decide +kernel)⟩
abbrev q_X0_shapeDifficulty : zY := (yX0_shapeDifficulty, cX0_shapeDifficulty, 6, (some .int), [])
theorem ok_X0_shapeDifficulty : zOkS q_X0_shapeDifficulty 3 := ⟨⟨List.mem_of_getElem? (i := 602) (by decide +kernel), List.mem_of_getElem? (i := 84) (by decide +kernel), ⟨by decide +kernel, by decide +kernel⟩, by decide +kernel, by decide, rfl⟩, List.mem_of_getElem? (i := 601) (by decide +kernel)⟩
abbrev q_X10_acts : zY := (yX10_acts, cX10_acts, 2, none, [])
theorem ok_X10_acts : zOkV q_X10_acts 0 := ⟨⟨List.mem_of_getElem? (i := 1204) (by decide +kernel), List.mem_of_getElem? (i := 65) (by decide +kernel), ⟨by decide +kernel, by decide +kernel⟩, by decide +kernel, by decide, rfl⟩, List.mem_of_getElem? (i := 1203) (by decide +kernel), List.mem_of_getElem? (i := 30) (by decide +kernel)⟩
abbrev q_X10_addChord : zY := (yX10_addChord, cX10_addChord, 4, (some .int), [])
theorem ok_X10_addChord : zOkV q_X10_addChord 2 := ⟨⟨List.mem_of_getElem? (i := 1324) (by decide +kernel), List.mem_of_getElem? (i := 65) (by decide +kernel), ⟨by decide +kernel, by decide +kernel⟩, by decide +kernel, by decide, rfl⟩, List.mem_of_getElem? (i := 1322) (by decide +kernel), List.mem_of_getElem? (i := 1323) (by decide +kernel)⟩
abbrev q_X10_bassOf : zY := (yX10_bassOf, cX10_bassOf, 2, (some .int), [])
theorem ok_X10_bassOf : zOkV q_X10_bassOf 1 := ⟨⟨List.mem_of_getElem? (i := 1292) (by decide +kernel), List.mem_of_getElem? (i := 65) (by decide +kernel), ⟨by decide +kernel, by decide +kernel⟩, by decide +kernel, by decide, rfl⟩, List.mem_of_getElem? (i := 1290) (by decide +kernel), List.mem_of_getElem? (i := 1291) (by decide +kernel)⟩
abbrev q_X10_bestCapo : zY := (yX10_bestCapo, cX10_bestCapo, 3, (some .int), [])
theorem ok_X10_bestCapo : zOkV q_X10_bestCapo 0 := ⟨⟨List.mem_of_getElem? (i := 1421) (by decide +kernel), List.mem_of_getElem? (i := 65) (by decide +kernel), ⟨by decide +kernel, by decide +kernel⟩, by decide +kernel, by decide, rfl⟩, List.mem_of_getElem? (i := 1419) (by decide +kernel), List.mem_of_getElem? (i := 1420) (by decide +kernel)⟩
abbrev q_X10_chord : zY := (yX10_chord, cX10_chord, 1, (some .int), [])
theorem ok_X10_chord : zOkS q_X10_chord 1 := ⟨⟨List.mem_of_getElem? (i := 1200) (by decide +kernel), List.mem_of_getElem? (i := 65) (by decide +kernel), ⟨by decide +kernel, by decide +kernel⟩, by decide +kernel, by decide, rfl⟩, List.mem_of_getElem? (i := 1199) (by decide +kernel)⟩
abbrev q_X10_chords : zY := (yX10_chords, cX10_chords, 1, (some .int), [])
theorem ok_X10_chords : zOkV q_X10_chords 0 := ⟨⟨List.mem_of_getElem? (i := 1264) (by decide +kernel), List.mem_of_getElem? (i := 65) (by decide +kernel), ⟨by decide +kernel, by decide +kernel⟩, by decide +kernel, by decide, rfl⟩, List.mem_of_getElem? (i := 1262) (by decide +kernel), List.mem_of_getElem? (i := 1263) (by decide +kernel)⟩
abbrev q_X10_clearText : zY := (yX10_clearText, cX10_clearText, 2, (some .int), [])
theorem ok_X10_clearText : zOkV q_X10_clearText 0 := ⟨⟨List.mem_of_getElem? (i := 1169) (by decide +kernel), List.mem_of_getElem? (i := 65) (by decide +kernel), ⟨by decide +kernel, by decide +kernel⟩, by decide +kernel, by decide, rfl⟩, List.mem_of_getElem? (i := 1167) (by decide +kernel), List.mem_of_getElem? (i := 1168) (by decide +kernel)⟩
abbrev q_X10_closes : zY := (yX10_closes, cX10_closes, 3, none, [])
theorem ok_X10_closes : zOkV q_X10_closes 1 := ⟨⟨List.mem_of_getElem? (i := 1340) (by decide +kernel), List.mem_of_getElem? (i := 65) (by decide +kernel), ⟨by decide +kernel, by decide +kernel⟩, by decide +kernel, by decide, rfl⟩, List.mem_of_getElem? (i := 1339) (by decide +kernel), List.mem_of_getElem? (i := 45) (by decide +kernel)⟩
abbrev q_X10_columnOf : zY := (yX10_columnOf, cX10_columnOf, 2, (some .int), [])
theorem ok_X10_columnOf : zOkV q_X10_columnOf 1 := ⟨⟨List.mem_of_getElem? (i := 1280) (by decide +kernel), List.mem_of_getElem? (i := 65) (by decide +kernel), ⟨by decide +kernel, by decide +kernel⟩, by decide +kernel, by decide, rfl⟩, List.mem_of_getElem? (i := 1278) (by decide +kernel), List.mem_of_getElem? (i := 1279) (by decide +kernel)⟩
abbrev q_X10_comesTo : zY := (yX10_comesTo, cX10_comesTo, 6, (some .int), [])
theorem ok_X10_comesTo : zOkV q_X10_comesTo 2 := ⟨⟨List.mem_of_getElem? (i := 1328) (by decide +kernel), List.mem_of_getElem? (i := 65) (by decide +kernel), ⟨by decide +kernel, by decide +kernel⟩, by decide +kernel, by decide, rfl⟩, List.mem_of_getElem? (i := 1327) (by decide +kernel), List.mem_of_getElem? (i := 43) (by decide +kernel)⟩
abbrev q_X10_commonTones : zY := (yX10_commonTones, cX10_commonTones, 4, (some .int), [])
theorem ok_X10_commonTones : zOkV q_X10_commonTones 1 := ⟨⟨List.mem_of_getElem? (i := 1348) (by decide +kernel), List.mem_of_getElem? (i := 65) (by decide +kernel), ⟨by decide +kernel, by decide +kernel⟩, by decide +kernel, by decide, rfl⟩, List.mem_of_getElem? (i := 1346) (by decide +kernel), List.mem_of_getElem? (i := 1347) (by decide +kernel)⟩
abbrev q_X10_degree : zY := (yX10_degree, cX10_degree, 7, (some .int), [])
theorem ok_X10_degree : zOkV q_X10_degree 1 := ⟨⟨List.mem_of_getElem? (i := 1359) (by decide +kernel), List.mem_of_getElem? (i := 65) (by decide +kernel), ⟨by decide +kernel, by decide +kernel⟩, by decide +kernel, by decide, rfl⟩, List.mem_of_getElem? (i := 1357) (by decide +kernel), List.mem_of_getElem? (i := 1358) (by decide +kernel)⟩
abbrev q_X10_difficulty : zY := (yX10_difficulty, cX10_difficulty, 2, (some .int), [])
theorem ok_X10_difficulty : zOkV q_X10_difficulty 1 := ⟨⟨List.mem_of_getElem? (i := 1410) (by decide +kernel), List.mem_of_getElem? (i := 65) (by decide +kernel), ⟨by decide +kernel, by decide +kernel⟩, by decide +kernel, by decide, rfl⟩, List.mem_of_getElem? (i := 1408) (by decide +kernel), List.mem_of_getElem? (i := 1409) (by decide +kernel)⟩
abbrev q_X10_difficultyOf : zY := (yX10_difficultyOf, cX10_difficultyOf, 9, (some .int), [])
theorem ok_X10_difficultyOf : zOkV q_X10_difficultyOf 1 := ⟨⟨List.mem_of_getElem? (i := 1414) (by decide +kernel), List.mem_of_getElem? (i := 65) (by decide +kernel), ⟨by decide +kernel, by decide +kernel⟩, by decide +kernel, by decide, rfl⟩, List.mem_of_getElem? (i := 1413) (by decide +kernel), List.mem_of_getElem? (i := 50) (by decide +kernel)⟩
abbrev q_X10_endOf : zY := (yX10_endOf, cX10_endOf, 7, (some .int), [])
theorem ok_X10_endOf : zOkV q_X10_endOf 2 := ⟨⟨List.mem_of_getElem? (i := 1433) (by decide +kernel), List.mem_of_getElem? (i := 65) (by decide +kernel), ⟨by decide +kernel, by decide +kernel⟩, by decide +kernel, by decide, rfl⟩, List.mem_of_getElem? (i := 1432) (by decide +kernel), List.mem_of_getElem? (i := 52) (by decide +kernel)⟩
abbrev q_X10_fails : zY := (yX10_fails, cX10_fails, 2, (some .int), [])
theorem ok_X10_fails : zOkV q_X10_fails 1 := ⟨⟨List.mem_of_getElem? (i := 1165) (by decide +kernel), List.mem_of_getElem? (i := 65) (by decide +kernel), ⟨by decide +kernel, by decide +kernel⟩, by decide +kernel, by decide, rfl⟩, List.mem_of_getElem? (i := 1164) (by decide +kernel), List.mem_of_getElem? (i := 23) (by decide +kernel)⟩
abbrev q_X10_findKey : zY := (yX10_findKey, cX10_findKey, 1, (some .int), [])
theorem ok_X10_findKey : zOkV q_X10_findKey 0 := ⟨⟨List.mem_of_getElem? (i := 1390) (by decide +kernel), List.mem_of_getElem? (i := 65) (by decide +kernel), ⟨by decide +kernel, by decide +kernel⟩, by decide +kernel, by decide, rfl⟩, List.mem_of_getElem? (i := 1388) (by decide +kernel), List.mem_of_getElem? (i := 1389) (by decide +kernel)⟩
abbrev q_X10_fingerprint : zY := (yX10_fingerprint, cX10_fingerprint, 5, (some .long), [])
theorem ok_X10_fingerprint : zOkV q_X10_fingerprint 0 := ⟨⟨List.mem_of_getElem? (i := 1469) (by decide +kernel), List.mem_of_getElem? (i := 65) (by decide +kernel), ⟨by decide +kernel, by decide +kernel⟩, by decide +kernel, by decide, rfl⟩, List.mem_of_getElem? (i := 1467) (by decide +kernel), List.mem_of_getElem? (i := 1468) (by decide +kernel)⟩
abbrev q_X10_found : zY := (yX10_found, cX10_found, 8, (some .int), [])
theorem ok_X10_found : zOkV q_X10_found 0 := ⟨⟨List.mem_of_getElem? (i := 1208) (by decide +kernel), List.mem_of_getElem? (i := 65) (by decide +kernel), ⟨by decide +kernel, by decide +kernel⟩, by decide +kernel, by decide, rfl⟩, List.mem_of_getElem? (i := 1207) (by decide +kernel), List.mem_of_getElem? (i := 31) (by decide +kernel)⟩
abbrev q_X10_hasTone : zY := (yX10_hasTone, cX10_hasTone, 5, (some .boolean), [])
theorem ok_X10_hasTone : zOkV q_X10_hasTone 2 := ⟨⟨List.mem_of_getElem? (i := 1352) (by decide +kernel), List.mem_of_getElem? (i := 65) (by decide +kernel), ⟨by decide +kernel, by decide +kernel⟩, by decide +kernel, by decide, rfl⟩, List.mem_of_getElem? (i := 1351) (by decide +kernel), List.mem_of_getElem? (i := 46) (by decide +kernel)⟩
abbrev q_X10_in : zY := (yX10_in, cX10_in, 3, (some .boolean), [])
theorem ok_X10_in : zOkS q_X10_in 3 := ⟨⟨List.mem_of_getElem? (i := 1161) (by decide +kernel), List.mem_of_getElem? (i := 65) (by decide +kernel), ⟨by decide +kernel, by decide +kernel⟩, by decide +kernel, by decide, rfl⟩, List.mem_of_getElem? (i := 1160) (by decide +kernel)⟩
abbrev q_X10_init : zY := (yX10_init, cX10_init, 1, none, [])
theorem ok_X10_init : zOkI q_X10_init 0 := ⟨⟨List.mem_of_getElem? (i := 1076) (by decide +kernel), List.mem_of_getElem? (i := 65) (by decide +kernel), ⟨by decide +kernel, by decide +kernel⟩, by decide +kernel, by decide, rfl⟩, List.mem_of_getElem? (i := 1075) (by decide +kernel), rfl, rfl⟩
abbrev q_X10_isBreak : zY := (yX10_isBreak, cX10_isBreak, 4, (some .boolean), [])
theorem ok_X10_isBreak : zOkV q_X10_isBreak 2 := ⟨⟨List.mem_of_getElem? (i := 1437) (by decide +kernel), List.mem_of_getElem? (i := 65) (by decide +kernel), ⟨by decide +kernel, by decide +kernel⟩, by decide +kernel, by decide, rfl⟩, List.mem_of_getElem? (i := 1436) (by decide +kernel), List.mem_of_getElem? (i := 53) (by decide +kernel)⟩
abbrev q_X10_isChord : zY := (yX10_isChord, cX10_isChord, 2, (some .boolean), [])
theorem ok_X10_isChord : zOkV q_X10_isChord 1 := ⟨⟨List.mem_of_getElem? (i := 1276) (by decide +kernel), List.mem_of_getElem? (i := 65) (by decide +kernel), ⟨by decide +kernel, by decide +kernel⟩, by decide +kernel, by decide, rfl⟩, List.mem_of_getElem? (i := 1275) (by decide +kernel), List.mem_of_getElem? (i := 37) (by decide +kernel)⟩
abbrev q_X10_isEasy : zY := (yX10_isEasy, cX10_isEasy, 3, (some .boolean), [])
theorem ok_X10_isEasy : zOkS q_X10_isEasy 2 := ⟨⟨List.mem_of_getElem? (i := 1417) (by decide +kernel), List.mem_of_getElem? (i := 65) (by decide +kernel), ⟨by decide +kernel, by decide +kernel⟩, by decide +kernel, by decide, rfl⟩, List.mem_of_getElem? (i := 1416) (by decide +kernel)⟩
abbrev q_X10_isInScale : zY := (yX10_isInScale, cX10_isInScale, 4, (some .boolean), [])
theorem ok_X10_isInScale : zOkS q_X10_isInScale 2 := ⟨⟨List.mem_of_getElem? (i := 1221) (by decide +kernel), List.mem_of_getElem? (i := 65) (by decide +kernel), ⟨by decide +kernel, by decide +kernel⟩, by decide +kernel, by decide, rfl⟩, List.mem_of_getElem? (i := 1220) (by decide +kernel)⟩
abbrev q_X10_isKey : zY := (yX10_isKey, cX10_isKey, 2, (some .boolean), [])
theorem ok_X10_isKey : zOkS q_X10_isKey 2 := ⟨⟨List.mem_of_getElem? (i := 1382) (by decide +kernel), List.mem_of_getElem? (i := 65) (by decide +kernel), ⟨by decide +kernel, by decide +kernel⟩, by decide +kernel, by decide, rfl⟩, List.mem_of_getElem? (i := 1381) (by decide +kernel)⟩
abbrev q_X10_isLine : zY := (yX10_isLine, cX10_isLine, 2, (some .boolean), [])
theorem ok_X10_isLine : zOkV q_X10_isLine 1 := ⟨⟨List.mem_of_getElem? (i := 1248) (by decide +kernel), List.mem_of_getElem? (i := 65) (by decide +kernel), ⟨by decide +kernel, by decide +kernel⟩, by decide +kernel, by decide, rfl⟩, List.mem_of_getElem? (i := 1247) (by decide +kernel), List.mem_of_getElem? (i := 33) (by decide +kernel)⟩
abbrev q_X10_isMinor : zY := (yX10_isMinor, cX10_isMinor, 1, (some .boolean), [])
theorem ok_X10_isMinor : zOkV q_X10_isMinor 0 := ⟨⟨List.mem_of_getElem? (i := 1371) (by decide +kernel), List.mem_of_getElem? (i := 65) (by decide +kernel), ⟨by decide +kernel, by decide +kernel⟩, by decide +kernel, by decide, rfl⟩, List.mem_of_getElem? (i := 1369) (by decide +kernel), List.mem_of_getElem? (i := 1370) (by decide +kernel)⟩
abbrev q_X10_isMinorChord : zY := (yX10_isMinorChord, cX10_isMinorChord, 1, (some .boolean), [])
theorem ok_X10_isMinorChord : zOkS q_X10_isMinorChord 1 := ⟨⟨List.mem_of_getElem? (i := 1224) (by decide +kernel), List.mem_of_getElem? (i := 65) (by decide +kernel), ⟨by decide +kernel, by decide +kernel⟩, by decide +kernel, by decide, rfl⟩, List.mem_of_getElem? (i := 1223) (by decide +kernel)⟩
abbrev q_X10_isRow : zY := (yX10_isRow, cX10_isRow, 4, (some .boolean), [])
theorem ok_X10_isRow : zOkV q_X10_isRow 3 := ⟨⟨List.mem_of_getElem? (i := 1453) (by decide +kernel), List.mem_of_getElem? (i := 65) (by decide +kernel), ⟨by decide +kernel, by decide +kernel⟩, by decide +kernel, by decide, rfl⟩, List.mem_of_getElem? (i := 1452) (by decide +kernel), List.mem_of_getElem? (i := 56) (by decide +kernel)⟩
abbrev q_X10_isText : zY := (yX10_isText, cX10_isText, 1, (some .boolean), [])
theorem ok_X10_isText : zOkV q_X10_isText 0 := ⟨⟨List.mem_of_getElem? (i := 1316) (by decide +kernel), List.mem_of_getElem? (i := 65) (by decide +kernel), ⟨by decide +kernel, by decide +kernel⟩, by decide +kernel, by decide, rfl⟩, List.mem_of_getElem? (i := 1315) (by decide +kernel), List.mem_of_getElem? (i := 41) (by decide +kernel)⟩
abbrev q_X10_lays : zY := (yX10_lays, cX10_lays, 5, none, [])
theorem ok_X10_lays : zOkV q_X10_lays 3 := ⟨⟨List.mem_of_getElem? (i := 1441) (by decide +kernel), List.mem_of_getElem? (i := 65) (by decide +kernel), ⟨by decide +kernel, by decide +kernel⟩, by decide +kernel, by decide, rfl⟩, List.mem_of_getElem? (i := 1440) (by decide +kernel), List.mem_of_getElem? (i := 54) (by decide +kernel)⟩
abbrev q_X10_laysChords : zY := (yX10_laysChords, cX10_laysChords, 7, none, [])
theorem ok_X10_laysChords : zOkV q_X10_laysChords 2 := ⟨⟨List.mem_of_getElem? (i := 1445) (by decide +kernel), List.mem_of_getElem? (i := 65) (by decide +kernel), ⟨by decide +kernel, by decide +kernel⟩, by decide +kernel, by decide, rfl⟩, List.mem_of_getElem? (i := 1444) (by decide +kernel), List.mem_of_getElem? (i := 55) (by decide +kernel)⟩
abbrev q_X10_laysPair : zY := (yX10_laysPair, cX10_laysPair, 5, none, [])
theorem ok_X10_laysPair : zOkV q_X10_laysPair 2 := ⟨⟨List.mem_of_getElem? (i := 1457) (by decide +kernel), List.mem_of_getElem? (i := 65) (by decide +kernel), ⟨by decide +kernel, by decide +kernel⟩, by decide +kernel, by decide, rfl⟩, List.mem_of_getElem? (i := 1456) (by decide +kernel), List.mem_of_getElem? (i := 57) (by decide +kernel)⟩
abbrev q_X10_lengthOf : zY := (yX10_lengthOf, cX10_lengthOf, 2, (some .int), [])
theorem ok_X10_lengthOf : zOkV q_X10_lengthOf 1 := ⟨⟨List.mem_of_getElem? (i := 1252) (by decide +kernel), List.mem_of_getElem? (i := 65) (by decide +kernel), ⟨by decide +kernel, by decide +kernel⟩, by decide +kernel, by decide, rfl⟩, List.mem_of_getElem? (i := 1251) (by decide +kernel), List.mem_of_getElem? (i := 34) (by decide +kernel)⟩
abbrev q_X10_likeQuality : zY := (yX10_likeQuality, cX10_likeQuality, 5, (some .int), [])
theorem ok_X10_likeQuality : zOkV q_X10_likeQuality 1 := ⟨⟨List.mem_of_getElem? (i := 1197) (by decide +kernel), List.mem_of_getElem? (i := 65) (by decide +kernel), ⟨by decide +kernel, by decide +kernel⟩, by decide +kernel, by decide, rfl⟩, List.mem_of_getElem? (i := 1196) (by decide +kernel), List.mem_of_getElem? (i := 29) (by decide +kernel)⟩
abbrev q_X10_lineOf : zY := (yX10_lineOf, cX10_lineOf, 2, (some .int), [])
theorem ok_X10_lineOf : zOkV q_X10_lineOf 1 := ⟨⟨List.mem_of_getElem? (i := 1268) (by decide +kernel), List.mem_of_getElem? (i := 65) (by decide +kernel), ⟨by decide +kernel, by decide +kernel⟩, by decide +kernel, by decide, rfl⟩, List.mem_of_getElem? (i := 1266) (by decide +kernel), List.mem_of_getElem? (i := 1267) (by decide +kernel)⟩
abbrev q_X10_lines : zY := (yX10_lines, cX10_lines, 1, (some .int), [])
theorem ok_X10_lines : zOkV q_X10_lines 0 := ⟨⟨List.mem_of_getElem? (i := 1240) (by decide +kernel), List.mem_of_getElem? (i := 65) (by decide +kernel), ⟨by decide +kernel, by decide +kernel⟩, by decide +kernel, by decide, rfl⟩, List.mem_of_getElem? (i := 1238) (by decide +kernel), List.mem_of_getElem? (i := 1239) (by decide +kernel)⟩
abbrev q_X10_lyric : zY := (yX10_lyric, cX10_lyric, 3, (some .int), [])
theorem ok_X10_lyric : zOkV q_X10_lyric 2 := ⟨⟨List.mem_of_getElem? (i := 1256) (by decide +kernel), List.mem_of_getElem? (i := 65) (by decide +kernel), ⟨by decide +kernel, by decide +kernel⟩, by decide +kernel, by decide, rfl⟩, List.mem_of_getElem? (i := 1254) (by decide +kernel), List.mem_of_getElem? (i := 1255) (by decide +kernel)⟩
abbrev q_X10_lyricAt : zY := (yX10_lyricAt, cX10_lyricAt, 3, (some .int), [])
theorem ok_X10_lyricAt : zOkV q_X10_lyricAt 2 := ⟨⟨List.mem_of_getElem? (i := 1260) (by decide +kernel), List.mem_of_getElem? (i := 65) (by decide +kernel), ⟨by decide +kernel, by decide +kernel⟩, by decide +kernel, by decide, rfl⟩, List.mem_of_getElem? (i := 1259) (by decide +kernel), List.mem_of_getElem? (i := 35) (by decide +kernel)⟩
abbrev q_X10_lyrics : zY := (yX10_lyrics, cX10_lyrics, 2, (some .int), [])
theorem ok_X10_lyrics : zOkV q_X10_lyrics 1 := ⟨⟨List.mem_of_getElem? (i := 1244) (by decide +kernel), List.mem_of_getElem? (i := 65) (by decide +kernel), ⟨by decide +kernel, by decide +kernel⟩, by decide +kernel, by decide, rfl⟩, List.mem_of_getElem? (i := 1242) (by decide +kernel), List.mem_of_getElem? (i := 1243) (by decide +kernel)⟩
abbrev q_X10_mod12 : zY := (yX10_mod12, cX10_mod12, 1, (some .int), [])
theorem ok_X10_mod12 : zOkS q_X10_mod12 1 := ⟨⟨List.mem_of_getElem? (i := 1218) (by decide +kernel), List.mem_of_getElem? (i := 65) (by decide +kernel), ⟨by decide +kernel, by decide +kernel⟩, by decide +kernel, by decide, rfl⟩, List.mem_of_getElem? (i := 1217) (by decide +kernel)⟩
abbrev q_X10_moveChord : zY := (yX10_moveChord, cX10_moveChord, 8, (some .int), [])
theorem ok_X10_moveChord : zOkV q_X10_moveChord 2 := ⟨⟨List.mem_of_getElem? (i := 1344) (by decide +kernel), List.mem_of_getElem? (i := 65) (by decide +kernel), ⟨by decide +kernel, by decide +kernel⟩, by decide +kernel, by decide, rfl⟩, List.mem_of_getElem? (i := 1342) (by decide +kernel), List.mem_of_getElem? (i := 1343) (by decide +kernel)⟩
abbrev q_X10_nameChar : zY := (yX10_nameChar, cX10_nameChar, 3, (some .int), [])
theorem ok_X10_nameChar : zOkV q_X10_nameChar 2 := ⟨⟨List.mem_of_getElem? (i := 1296) (by decide +kernel), List.mem_of_getElem? (i := 65) (by decide +kernel), ⟨by decide +kernel, by decide +kernel⟩, by decide +kernel, by decide, rfl⟩, List.mem_of_getElem? (i := 1294) (by decide +kernel), List.mem_of_getElem? (i := 1295) (by decide +kernel)⟩
abbrev q_X10_names : zY := (yX10_names, cX10_names, 4, none, [])
theorem ok_X10_names : zOkV q_X10_names 1 := ⟨⟨List.mem_of_getElem? (i := 1300) (by decide +kernel), List.mem_of_getElem? (i := 65) (by decide +kernel), ⟨by decide +kernel, by decide +kernel⟩, by decide +kernel, by decide, rfl⟩, List.mem_of_getElem? (i := 1299) (by decide +kernel), List.mem_of_getElem? (i := 38) (by decide +kernel)⟩
abbrev q_X10_opens : zY := (yX10_opens, cX10_opens, 3, none, [])
theorem ok_X10_opens : zOkV q_X10_opens 1 := ⟨⟨List.mem_of_getElem? (i := 1332) (by decide +kernel), List.mem_of_getElem? (i := 65) (by decide +kernel), ⟨by decide +kernel, by decide +kernel⟩, by decide +kernel, by decide, rfl⟩, List.mem_of_getElem? (i := 1331) (by decide +kernel), List.mem_of_getElem? (i := 44) (by decide +kernel)⟩
abbrev q_X10_pairs : zY := (yX10_pairs, cX10_pairs, 2, (some .int), [])
theorem ok_X10_pairs : zOkV q_X10_pairs 1 := ⟨⟨List.mem_of_getElem? (i := 1425) (by decide +kernel), List.mem_of_getElem? (i := 65) (by decide +kernel), ⟨by decide +kernel, by decide +kernel⟩, by decide +kernel, by decide, rfl⟩, List.mem_of_getElem? (i := 1423) (by decide +kernel), List.mem_of_getElem? (i := 1424) (by decide +kernel)⟩
abbrev q_X10_pairsOf : zY := (yX10_pairsOf, cX10_pairsOf, 5, (some .int), [])
theorem ok_X10_pairsOf : zOkV q_X10_pairsOf 1 := ⟨⟨List.mem_of_getElem? (i := 1429) (by decide +kernel), List.mem_of_getElem? (i := 65) (by decide +kernel), ⟨by decide +kernel, by decide +kernel⟩, by decide +kernel, by decide, rfl⟩, List.mem_of_getElem? (i := 1428) (by decide +kernel), List.mem_of_getElem? (i := 51) (by decide +kernel)⟩
abbrev q_X10_pitch : zY := (yX10_pitch, cX10_pitch, 1, (some .int), [])
theorem ok_X10_pitch : zOkS q_X10_pitch 1 := ⟨⟨List.mem_of_getElem? (i := 1215) (by decide +kernel), List.mem_of_getElem? (i := 65) (by decide +kernel), ⟨by decide +kernel, by decide +kernel⟩, by decide +kernel, by decide, rfl⟩, List.mem_of_getElem? (i := 1214) (by decide +kernel)⟩
abbrev q_X10_placeOf : zY := (yX10_placeOf, cX10_placeOf, 3, (some .int), [])
theorem ok_X10_placeOf : zOkV q_X10_placeOf 1 := ⟨⟨List.mem_of_getElem? (i := 1193) (by decide +kernel), List.mem_of_getElem? (i := 65) (by decide +kernel), ⟨by decide +kernel, by decide +kernel⟩, by decide +kernel, by decide, rfl⟩, List.mem_of_getElem? (i := 1192) (by decide +kernel), List.mem_of_getElem? (i := 28) (by decide +kernel)⟩
abbrev q_X10_puts : zY := (yX10_puts, cX10_puts, 2, none, [])
theorem ok_X10_puts : zOkV q_X10_puts 1 := ⟨⟨List.mem_of_getElem? (i := 1320) (by decide +kernel), List.mem_of_getElem? (i := 65) (by decide +kernel), ⟨by decide +kernel, by decide +kernel⟩, by decide +kernel, by decide, rfl⟩, List.mem_of_getElem? (i := 1319) (by decide +kernel), List.mem_of_getElem? (i := 42) (by decide +kernel)⟩
abbrev q_X10_qualityOf : zY := (yX10_qualityOf, cX10_qualityOf, 2, (some .int), [])
theorem ok_X10_qualityOf : zOkV q_X10_qualityOf 1 := ⟨⟨List.mem_of_getElem? (i := 1288) (by decide +kernel), List.mem_of_getElem? (i := 65) (by decide +kernel), ⟨by decide +kernel, by decide +kernel⟩, by decide +kernel, by decide, rfl⟩, List.mem_of_getElem? (i := 1286) (by decide +kernel), List.mem_of_getElem? (i := 1287) (by decide +kernel)⟩
abbrev q_X10_read : zY := (yX10_read, cX10_read, 2, (some .int), [])
theorem ok_X10_read : zOkV q_X10_read 0 := ⟨⟨List.mem_of_getElem? (i := 1173) (by decide +kernel), List.mem_of_getElem? (i := 65) (by decide +kernel), ⟨by decide +kernel, by decide +kernel⟩, by decide +kernel, by decide, rfl⟩, List.mem_of_getElem? (i := 1171) (by decide +kernel), List.mem_of_getElem? (i := 1172) (by decide +kernel)⟩
abbrev q_X10_readsChord : zY := (yX10_readsChord, cX10_readsChord, 7, (some .boolean), [])
theorem ok_X10_readsChord : zOkV q_X10_readsChord 1 := ⟨⟨List.mem_of_getElem? (i := 1185) (by decide +kernel), List.mem_of_getElem? (i := 65) (by decide +kernel), ⟨by decide +kernel, by decide +kernel⟩, by decide +kernel, by decide, rfl⟩, List.mem_of_getElem? (i := 1184) (by decide +kernel), List.mem_of_getElem? (i := 26) (by decide +kernel)⟩
abbrev q_X10_readsNote : zY := (yX10_readsNote, cX10_readsNote, 1, (some .boolean), [])
theorem ok_X10_readsNote : zOkV q_X10_readsNote 0 := ⟨⟨List.mem_of_getElem? (i := 1189) (by decide +kernel), List.mem_of_getElem? (i := 65) (by decide +kernel), ⟨by decide +kernel, by decide +kernel⟩, by decide +kernel, by decide, rfl⟩, List.mem_of_getElem? (i := 1188) (by decide +kernel), List.mem_of_getElem? (i := 27) (by decide +kernel)⟩
abbrev q_X10_readsSheet : zY := (yX10_readsSheet, cX10_readsSheet, 3, (some .boolean), [])
theorem ok_X10_readsSheet : zOkV q_X10_readsSheet 0 := ⟨⟨List.mem_of_getElem? (i := 1177) (by decide +kernel), List.mem_of_getElem? (i := 65) (by decide +kernel), ⟨by decide +kernel, by decide +kernel⟩, by decide +kernel, by decide, rfl⟩, List.mem_of_getElem? (i := 1176) (by decide +kernel), List.mem_of_getElem? (i := 24) (by decide +kernel)⟩
abbrev q_X10_removeChord : zY := (yX10_removeChord, cX10_removeChord, 2, (some .int), [])
theorem ok_X10_removeChord : zOkV q_X10_removeChord 1 := ⟨⟨List.mem_of_getElem? (i := 1336) (by decide +kernel), List.mem_of_getElem? (i := 65) (by decide +kernel), ⟨by decide +kernel, by decide +kernel⟩, by decide +kernel, by decide, rfl⟩, List.mem_of_getElem? (i := 1334) (by decide +kernel), List.mem_of_getElem? (i := 1335) (by decide +kernel)⟩
abbrev q_X10_respell : zY := (yX10_respell, cX10_respell, 1, (some .int), [])
theorem ok_X10_respell : zOkV q_X10_respell 0 := ⟨⟨List.mem_of_getElem? (i := 1406) (by decide +kernel), List.mem_of_getElem? (i := 65) (by decide +kernel), ⟨by decide +kernel, by decide +kernel⟩, by decide +kernel, by decide, rfl⟩, List.mem_of_getElem? (i := 1404) (by decide +kernel), List.mem_of_getElem? (i := 1405) (by decide +kernel)⟩
abbrev q_X10_rootOf : zY := (yX10_rootOf, cX10_rootOf, 2, (some .int), [])
theorem ok_X10_rootOf : zOkV q_X10_rootOf 1 := ⟨⟨List.mem_of_getElem? (i := 1284) (by decide +kernel), List.mem_of_getElem? (i := 65) (by decide +kernel), ⟨by decide +kernel, by decide +kernel⟩, by decide +kernel, by decide, rfl⟩, List.mem_of_getElem? (i := 1282) (by decide +kernel), List.mem_of_getElem? (i := 1283) (by decide +kernel)⟩
abbrev q_X10_rowChar : zY := (yX10_rowChar, cX10_rowChar, 5, (some .int), [])
theorem ok_X10_rowChar : zOkV q_X10_rowChar 4 := ⟨⟨List.mem_of_getElem? (i := 1461) (by decide +kernel), List.mem_of_getElem? (i := 65) (by decide +kernel), ⟨by decide +kernel, by decide +kernel⟩, by decide +kernel, by decide, rfl⟩, List.mem_of_getElem? (i := 1459) (by decide +kernel), List.mem_of_getElem? (i := 1460) (by decide +kernel)⟩
abbrev q_X10_rowLength : zY := (yX10_rowLength, cX10_rowLength, 4, (some .int), [])
theorem ok_X10_rowLength : zOkV q_X10_rowLength 3 := ⟨⟨List.mem_of_getElem? (i := 1449) (by decide +kernel), List.mem_of_getElem? (i := 65) (by decide +kernel), ⟨by decide +kernel, by decide +kernel⟩, by decide +kernel, by decide, rfl⟩, List.mem_of_getElem? (i := 1447) (by decide +kernel), List.mem_of_getElem? (i := 1448) (by decide +kernel)⟩
abbrev q_X10_score : zY := (yX10_score, cX10_score, 3, (some .int), [])
theorem ok_X10_score : zOkV q_X10_score 2 := ⟨⟨List.mem_of_getElem? (i := 1386) (by decide +kernel), List.mem_of_getElem? (i := 65) (by decide +kernel), ⟨by decide +kernel, by decide +kernel⟩, by decide +kernel, by decide, rfl⟩, List.mem_of_getElem? (i := 1384) (by decide +kernel), List.mem_of_getElem? (i := 1385) (by decide +kernel)⟩
abbrev q_X10_scoreOf : zY := (yX10_scoreOf, cX10_scoreOf, 7, (some .int), [])
theorem ok_X10_scoreOf : zOkV q_X10_scoreOf 2 := ⟨⟨List.mem_of_getElem? (i := 1212) (by decide +kernel), List.mem_of_getElem? (i := 65) (by decide +kernel), ⟨by decide +kernel, by decide +kernel⟩, by decide +kernel, by decide, rfl⟩, List.mem_of_getElem? (i := 1211) (by decide +kernel), List.mem_of_getElem? (i := 32) (by decide +kernel)⟩
abbrev q_X10_setChord : zY := (yX10_setChord, cX10_setChord, 2, (some .int), [])
theorem ok_X10_setChord : zOkV q_X10_setChord 1 := ⟨⟨List.mem_of_getElem? (i := 1312) (by decide +kernel), List.mem_of_getElem? (i := 65) (by decide +kernel), ⟨by decide +kernel, by decide +kernel⟩, by decide +kernel, by decide, rfl⟩, List.mem_of_getElem? (i := 1310) (by decide +kernel), List.mem_of_getElem? (i := 1311) (by decide +kernel)⟩
abbrev q_X10_setFlats : zY := (yX10_setFlats, cX10_setFlats, 3, (some .boolean), [])
theorem ok_X10_setFlats : zOkV q_X10_setFlats 1 := ⟨⟨List.mem_of_getElem? (i := 1232) (by decide +kernel), List.mem_of_getElem? (i := 65) (by decide +kernel), ⟨by decide +kernel, by decide +kernel⟩, by decide +kernel, by decide, rfl⟩, List.mem_of_getElem? (i := 1230) (by decide +kernel), List.mem_of_getElem? (i := 1231) (by decide +kernel)⟩
abbrev q_X10_setKey : zY := (yX10_setKey, cX10_setKey, 4, (some .int), [])
theorem ok_X10_setKey : zOkV q_X10_setKey 2 := ⟨⟨List.mem_of_getElem? (i := 1379) (by decide +kernel), List.mem_of_getElem? (i := 65) (by decide +kernel), ⟨by decide +kernel, by decide +kernel⟩, by decide +kernel, by decide, rfl⟩, List.mem_of_getElem? (i := 1377) (by decide +kernel), List.mem_of_getElem? (i := 1378) (by decide +kernel)⟩
abbrev q_X10_setSimple : zY := (yX10_setSimple, cX10_setSimple, 3, (some .boolean), [])
theorem ok_X10_setSimple : zOkV q_X10_setSimple 1 := ⟨⟨List.mem_of_getElem? (i := 1228) (by decide +kernel), List.mem_of_getElem? (i := 65) (by decide +kernel), ⟨by decide +kernel, by decide +kernel⟩, by decide +kernel, by decide, rfl⟩, List.mem_of_getElem? (i := 1226) (by decide +kernel), List.mem_of_getElem? (i := 1227) (by decide +kernel)⟩
abbrev q_X10_setWidth : zY := (yX10_setWidth, cX10_setWidth, 3, (some .int), [])
theorem ok_X10_setWidth : zOkV q_X10_setWidth 1 := ⟨⟨List.mem_of_getElem? (i := 1236) (by decide +kernel), List.mem_of_getElem? (i := 65) (by decide +kernel), ⟨by decide +kernel, by decide +kernel⟩, by decide +kernel, by decide, rfl⟩, List.mem_of_getElem? (i := 1234) (by decide +kernel), List.mem_of_getElem? (i := 1235) (by decide +kernel)⟩
abbrev q_X10_sign : zY := (yX10_sign, cX10_sign, 2, (some .int), [])
theorem ok_X10_sign : zOkV q_X10_sign 1 := ⟨⟨List.mem_of_getElem? (i := 1181) (by decide +kernel), List.mem_of_getElem? (i := 65) (by decide +kernel), ⟨by decide +kernel, by decide +kernel⟩, by decide +kernel, by decide, rfl⟩, List.mem_of_getElem? (i := 1180) (by decide +kernel), List.mem_of_getElem? (i := 25) (by decide +kernel)⟩
abbrev q_X10_signature : zY := (yX10_signature, cX10_signature, 1, (some .int), [])
theorem ok_X10_signature : zOkV q_X10_signature 0 := ⟨⟨List.mem_of_getElem? (i := 1375) (by decide +kernel), List.mem_of_getElem? (i := 65) (by decide +kernel), ⟨by decide +kernel, by decide +kernel⟩, by decide +kernel, by decide, rfl⟩, List.mem_of_getElem? (i := 1373) (by decide +kernel), List.mem_of_getElem? (i := 1374) (by decide +kernel)⟩
abbrev q_X10_signatureNow : zY := (yX10_signatureNow, cX10_signatureNow, 1, (some .int), [])
theorem ok_X10_signatureNow : zOkV q_X10_signatureNow 0 := ⟨⟨List.mem_of_getElem? (i := 1363) (by decide +kernel), List.mem_of_getElem? (i := 65) (by decide +kernel), ⟨by decide +kernel, by decide +kernel⟩, by decide +kernel, by decide, rfl⟩, List.mem_of_getElem? (i := 1362) (by decide +kernel), List.mem_of_getElem? (i := 47) (by decide +kernel)⟩
abbrev q_X10_spelled : zY := (yX10_spelled, cX10_spelled, 3, (some .int), [])
theorem ok_X10_spelled : zOkV q_X10_spelled 1 := ⟨⟨List.mem_of_getElem? (i := 1402) (by decide +kernel), List.mem_of_getElem? (i := 65) (by decide +kernel), ⟨by decide +kernel, by decide +kernel⟩, by decide +kernel, by decide, rfl⟩, List.mem_of_getElem? (i := 1401) (by decide +kernel), List.mem_of_getElem? (i := 49) (by decide +kernel)⟩
abbrev q_X10_spells : zY := (yX10_spells, cX10_spells, 6, (some .int), [])
theorem ok_X10_spells : zOkV q_X10_spells 1 := ⟨⟨List.mem_of_getElem? (i := 1398) (by decide +kernel), List.mem_of_getElem? (i := 65) (by decide +kernel), ⟨by decide +kernel, by decide +kernel⟩, by decide +kernel, by decide, rfl⟩, List.mem_of_getElem? (i := 1397) (by decide +kernel), List.mem_of_getElem? (i := 48) (by decide +kernel)⟩
abbrev q_X10_tells : zY := (yX10_tells, cX10_tells, 2, none, [])
theorem ok_X10_tells : zOkV q_X10_tells 1 := ⟨⟨List.mem_of_getElem? (i := 1308) (by decide +kernel), List.mem_of_getElem? (i := 65) (by decide +kernel), ⟨by decide +kernel, by decide +kernel⟩, by decide +kernel, by decide, rfl⟩, List.mem_of_getElem? (i := 1307) (by decide +kernel), List.mem_of_getElem? (i := 40) (by decide +kernel)⟩
abbrev q_X10_tellsNote : zY := (yX10_tellsNote, cX10_tellsNote, 5, none, [])
theorem ok_X10_tellsNote : zOkV q_X10_tellsNote 1 := ⟨⟨List.mem_of_getElem? (i := 1304) (by decide +kernel), List.mem_of_getElem? (i := 65) (by decide +kernel), ⟨by decide +kernel, by decide +kernel⟩, by decide +kernel, by decide, rfl⟩, List.mem_of_getElem? (i := 1303) (by decide +kernel), List.mem_of_getElem? (i := 39) (by decide +kernel)⟩
abbrev q_X10_thrown : zY := (yX10_thrown, cX10_thrown, 1, (some .int), [])
theorem ok_X10_thrown : zOkV q_X10_thrown 0 := ⟨⟨List.mem_of_getElem? (i := 1154) (by decide +kernel), List.mem_of_getElem? (i := 65) (by decide +kernel), ⟨by decide +kernel, by decide +kernel⟩, by decide +kernel, by decide, rfl⟩, List.mem_of_getElem? (i := 1152) (by decide +kernel), List.mem_of_getElem? (i := 1153) (by decide +kernel)⟩
abbrev q_X10_told : zY := (yX10_told, cX10_told, 3, (some .int), [])
theorem ok_X10_told : zOkV q_X10_told 2 := ⟨⟨List.mem_of_getElem? (i := 1272) (by decide +kernel), List.mem_of_getElem? (i := 65) (by decide +kernel), ⟨by decide +kernel, by decide +kernel⟩, by decide +kernel, by decide, rfl⟩, List.mem_of_getElem? (i := 1271) (by decide +kernel), List.mem_of_getElem? (i := 36) (by decide +kernel)⟩
abbrev q_X10_tonesOf : zY := (yX10_tonesOf, cX10_tonesOf, 1, (some .int), [])
theorem ok_X10_tonesOf : zOkS q_X10_tonesOf 1 := ⟨⟨List.mem_of_getElem? (i := 1355) (by decide +kernel), List.mem_of_getElem? (i := 65) (by decide +kernel), ⟨by decide +kernel, by decide +kernel⟩, by decide +kernel, by decide, rfl⟩, List.mem_of_getElem? (i := 1354) (by decide +kernel)⟩
abbrev q_X10_tonic : zY := (yX10_tonic, cX10_tonic, 1, (some .int), [])
theorem ok_X10_tonic : zOkV q_X10_tonic 0 := ⟨⟨List.mem_of_getElem? (i := 1367) (by decide +kernel), List.mem_of_getElem? (i := 65) (by decide +kernel), ⟨by decide +kernel, by decide +kernel⟩, by decide +kernel, by decide, rfl⟩, List.mem_of_getElem? (i := 1365) (by decide +kernel), List.mem_of_getElem? (i := 1366) (by decide +kernel)⟩
abbrev q_X10_transpose : zY := (yX10_transpose, cX10_transpose, 8, (some .int), [])
theorem ok_X10_transpose : zOkV q_X10_transpose 1 := ⟨⟨List.mem_of_getElem? (i := 1394) (by decide +kernel), List.mem_of_getElem? (i := 65) (by decide +kernel), ⟨by decide +kernel, by decide +kernel⟩, by decide +kernel, by decide, rfl⟩, List.mem_of_getElem? (i := 1392) (by decide +kernel), List.mem_of_getElem? (i := 1393) (by decide +kernel)⟩
abbrev q_X10_type : zY := (yX10_type, cX10_type, 2, (some .int), [])
theorem ok_X10_type : zOkV q_X10_type 1 := ⟨⟨List.mem_of_getElem? (i := 1158) (by decide +kernel), List.mem_of_getElem? (i := 65) (by decide +kernel), ⟨by decide +kernel, by decide +kernel⟩, by decide +kernel, by decide, rfl⟩, List.mem_of_getElem? (i := 1156) (by decide +kernel), List.mem_of_getElem? (i := 1157) (by decide +kernel)⟩
abbrev q_X10_undo : zY := (yX10_undo, cX10_undo, 2, (some .int), [])
theorem ok_X10_undo : zOkV q_X10_undo 0 := ⟨⟨List.mem_of_getElem? (i := 1465) (by decide +kernel), List.mem_of_getElem? (i := 65) (by decide +kernel), ⟨by decide +kernel, by decide +kernel⟩, by decide +kernel, by decide, rfl⟩, List.mem_of_getElem? (i := 1463) (by decide +kernel), List.mem_of_getElem? (i := 1464) (by decide +kernel)⟩
abbrev q_X1_init : zY := (yX1_init, cX1_init, 2, none, [])
theorem ok_X1_init : zOkI q_X1_init 0 := ⟨⟨List.mem_of_getElem? (i := 142) (by decide +kernel), List.mem_of_getElem? (i := 62) (by decide +kernel), ⟨by decide +kernel, by decide +kernel⟩, by decide +kernel, by decide, rfl⟩, List.mem_of_getElem? (i := 141) (by decide +kernel), rfl, rfl⟩
abbrev q_X1_isEmpty : zY := (yX1_isEmpty, cX1_isEmpty, 1, (some .boolean), [])
theorem ok_X1_isEmpty : zOkV q_X1_isEmpty 0 := ⟨⟨List.mem_of_getElem? (i := 1066) (by decide +kernel), List.mem_of_getElem? (i := 62) (by decide +kernel), ⟨by decide +kernel, by decide +kernel⟩, by decide +kernel, by decide, rfl⟩, List.mem_of_getElem? (i := 1064) (by decide +kernel), List.mem_of_getElem? (i := 1065) (by decide +kernel)⟩
abbrev q_X1_keep : zY := (yX1_keep, cX1_keep, 3, none, [])
theorem ok_X1_keep : zOkV q_X1_keep 1 := ⟨⟨List.mem_of_getElem? (i := 476) (by decide +kernel), List.mem_of_getElem? (i := 62) (by decide +kernel), ⟨by decide +kernel, by decide +kernel⟩, by decide +kernel, by decide, rfl⟩, List.mem_of_getElem? (i := 474) (by decide +kernel), List.mem_of_getElem? (i := 475) (by decide +kernel)⟩
abbrev q_X1_restore : zY := (yX1_restore, cX1_restore, 3, (some .int), [])
theorem ok_X1_restore : zOkV q_X1_restore 1 := ⟨⟨List.mem_of_getElem? (i := 1071) (by decide +kernel), List.mem_of_getElem? (i := 62) (by decide +kernel), ⟨by decide +kernel, by decide +kernel⟩, by decide +kernel, by decide, rfl⟩, List.mem_of_getElem? (i := 1069) (by decide +kernel), List.mem_of_getElem? (i := 1070) (by decide +kernel)⟩
abbrev q_X1_stateAt : zY := (yX1_stateAt, cX1_stateAt, 3, (some (.object "ChordSheet$Sheet")), [])
theorem ok_X1_stateAt : zOkV q_X1_stateAt 1 := ⟨⟨List.mem_of_getElem? (i := 480) (by decide +kernel), List.mem_of_getElem? (i := 62) (by decide +kernel), ⟨by decide +kernel, by decide +kernel⟩, by decide +kernel, by decide, rfl⟩, List.mem_of_getElem? (i := 479) (by decide +kernel), List.mem_of_getElem? (i := 7) (by decide +kernel)⟩
abbrev q_X2_best : zY := (yX2_best, cX2_best, 3, (some .int), [])
theorem ok_X2_best : zOkS q_X2_best 1 := ⟨⟨List.mem_of_getElem? (i := 491) (by decide +kernel), List.mem_of_getElem? (i := 81) (by decide +kernel), ⟨by decide +kernel, by decide +kernel⟩, by decide +kernel, by decide, rfl⟩, List.mem_of_getElem? (i := 490) (by decide +kernel)⟩
abbrev q_X2_bestSignature : zY := (yX2_bestSignature, cX2_bestSignature, 7, (some .int), [])
theorem ok_X2_bestSignature : zOkS q_X2_bestSignature 2 := ⟨⟨List.mem_of_getElem? (i := 494) (by decide +kernel), List.mem_of_getElem? (i := 81) (by decide +kernel), ⟨by decide +kernel, by decide +kernel⟩, by decide +kernel, by decide, rfl⟩, List.mem_of_getElem? (i := 493) (by decide +kernel)⟩
abbrev q_X2_degreeOf : zY := (yX2_degreeOf, cX2_degreeOf, 7, (some .int), [])
theorem ok_X2_degreeOf : zOkS q_X2_degreeOf 3 := ⟨⟨List.mem_of_getElem? (i := 935) (by decide +kernel), List.mem_of_getElem? (i := 81) (by decide +kernel), ⟨by decide +kernel, by decide +kernel⟩, by decide +kernel, by decide, rfl⟩, List.mem_of_getElem? (i := 934) (by decide +kernel)⟩
abbrev q_X2_isInScale : zY := (yX2_isInScale, cX2_isInScale, 3, (some .boolean), [])
theorem ok_X2_isInScale : zOkS q_X2_isInScale 2 := ⟨⟨List.mem_of_getElem? (i := 509) (by decide +kernel), List.mem_of_getElem? (i := 81) (by decide +kernel), ⟨by decide +kernel, by decide +kernel⟩, by decide +kernel, by decide, rfl⟩, List.mem_of_getElem? (i := 508) (by decide +kernel)⟩
abbrev q_X2_scoreOf : zY := (yX2_scoreOf, cX2_scoreOf, 9, (some .int), [])
theorem ok_X2_scoreOf : zOkS q_X2_scoreOf 3 := ⟨⟨List.mem_of_getElem? (i := 497) (by decide +kernel), List.mem_of_getElem? (i := 81) (by decide +kernel), ⟨by decide +kernel, by decide +kernel⟩, by decide +kernel, by decide, rfl⟩, List.mem_of_getElem? (i := 496) (by decide +kernel)⟩
abbrev q_X2_signatureOf : zY := (yX2_signatureOf, cX2_signatureOf, 2, (some .int), [])
theorem ok_X2_signatureOf : zOkS q_X2_signatureOf 2 := ⟨⟨List.mem_of_getElem? (i := 520) (by decide +kernel), List.mem_of_getElem? (i := 81) (by decide +kernel), ⟨by decide +kernel, by decide +kernel⟩, by decide +kernel, by decide, rfl⟩, List.mem_of_getElem? (i := 519) (by decide +kernel)⟩
abbrev q_X2_simplestSignature : zY := (yX2_simplestSignature, cX2_simplestSignature, 5, (some .int), [])
theorem ok_X2_simplestSignature : zOkS q_X2_simplestSignature 3 := ⟨⟨List.mem_of_getElem? (i := 969) (by decide +kernel), List.mem_of_getElem? (i := 81) (by decide +kernel), ⟨by decide +kernel, by decide +kernel⟩, by decide +kernel, by decide, rfl⟩, List.mem_of_getElem? (i := 968) (by decide +kernel)⟩
abbrev q_X2_tonicOf : zY := (yX2_tonicOf, cX2_tonicOf, 2, (some .int), [])
theorem ok_X2_tonicOf : zOkS q_X2_tonicOf 2 := ⟨⟨List.mem_of_getElem? (i := 500) (by decide +kernel), List.mem_of_getElem? (i := 81) (by decide +kernel), ⟨by decide +kernel, by decide +kernel⟩, by decide +kernel, by decide, rfl⟩, List.mem_of_getElem? (i := 499) (by decide +kernel)⟩
abbrev q_X3_countPairs : zY := (yX3_countPairs, cX3_countPairs, 4, (some .int), [])
theorem ok_X3_countPairs : zOkV q_X3_countPairs 2 := ⟨⟨List.mem_of_getElem? (i := 990) (by decide +kernel), List.mem_of_getElem? (i := 64) (by decide +kernel), ⟨by decide +kernel, by decide +kernel⟩, by decide +kernel, by decide, rfl⟩, List.mem_of_getElem? (i := 988) (by decide +kernel), List.mem_of_getElem? (i := 989) (by decide +kernel)⟩
abbrev q_X3_cutBack : zY := (yX3_cutBack, cX3_cutBack, 1, none, [])
theorem ok_X3_cutBack : zOkV q_X3_cutBack 0 := ⟨⟨List.mem_of_getElem? (i := 1035) (by decide +kernel), List.mem_of_getElem? (i := 64) (by decide +kernel), ⟨by decide +kernel, by decide +kernel⟩, by decide +kernel, by decide, rfl⟩, List.mem_of_getElem? (i := 1034) (by decide +kernel), List.mem_of_getElem? (i := 22) (by decide +kernel)⟩
abbrev q_X3_find : zY := (yX3_find, cX3_find, 7, (some (.object "ChordSheet$Row")), [])
theorem ok_X3_find : zOkV q_X3_find 4 := ⟨⟨List.mem_of_getElem? (i := 1046) (by decide +kernel), List.mem_of_getElem? (i := 64) (by decide +kernel), ⟨by decide +kernel, by decide +kernel⟩, by decide +kernel, by decide, rfl⟩, List.mem_of_getElem? (i := 1044) (by decide +kernel), List.mem_of_getElem? (i := 1045) (by decide +kernel)⟩
abbrev q_X3_init : zY := (yX3_init, cX3_init, 2, none, [])
theorem ok_X3_init : zOkI q_X3_init 1 := ⟨⟨List.mem_of_getElem? (i := 186) (by decide +kernel), List.mem_of_getElem? (i := 64) (by decide +kernel), ⟨by decide +kernel, by decide +kernel⟩, by decide +kernel, by decide, rfl⟩, List.mem_of_getElem? (i := 185) (by decide +kernel), rfl, rfl⟩
abbrev q_X3_isInnerBreak : zY := (yX3_isInnerBreak, cX3_isInnerBreak, 2, (some .boolean), [])
theorem ok_X3_isInnerBreak : zOkV q_X3_isInnerBreak 1 := ⟨⟨List.mem_of_getElem? (i := 1006) (by decide +kernel), List.mem_of_getElem? (i := 64) (by decide +kernel), ⟨by decide +kernel, by decide +kernel⟩, by decide +kernel, by decide, rfl⟩, List.mem_of_getElem? (i := 1005) (by decide +kernel), List.mem_of_getElem? (i := 18) (by decide +kernel)⟩
abbrev q_X3_isLetter : zY := (yX3_isLetter, cX3_isLetter, 3, (some .boolean), [])
theorem ok_X3_isLetter : zOkV q_X3_isLetter 1 := ⟨⟨List.mem_of_getElem? (i := 1010) (by decide +kernel), List.mem_of_getElem? (i := 64) (by decide +kernel), ⟨by decide +kernel, by decide +kernel⟩, by decide +kernel, by decide, rfl⟩, List.mem_of_getElem? (i := 1009) (by decide +kernel), List.mem_of_getElem? (i := 19) (by decide +kernel)⟩
abbrev q_X3_layNext : zY := (yX3_layNext, cX3_layNext, 4, (some .boolean), [])
theorem ok_X3_layNext : zOkV q_X3_layNext 0 := ⟨⟨List.mem_of_getElem? (i := 999) (by decide +kernel), List.mem_of_getElem? (i := 64) (by decide +kernel), ⟨by decide +kernel, by decide +kernel⟩, by decide +kernel, by decide, rfl⟩, List.mem_of_getElem? (i := 998) (by decide +kernel), List.mem_of_getElem? (i := 17) (by decide +kernel)⟩
abbrev q_X3_offerEnd : zY := (yX3_offerEnd, cX3_offerEnd, 3, (some .boolean), [])
theorem ok_X3_offerEnd : zOkV q_X3_offerEnd 1 := ⟨⟨List.mem_of_getElem? (i := 1015) (by decide +kernel), List.mem_of_getElem? (i := 64) (by decide +kernel), ⟨by decide +kernel, by decide +kernel⟩, by decide +kernel, by decide, rfl⟩, List.mem_of_getElem? (i := 1014) (by decide +kernel), List.mem_of_getElem? (i := 20) (by decide +kernel)⟩
abbrev q_X3_placeChords : zY := (yX3_placeChords, cX3_placeChords, 3, none, [])
theorem ok_X3_placeChords : zOkV q_X3_placeChords 1 := ⟨⟨List.mem_of_getElem? (i := 1020) (by decide +kernel), List.mem_of_getElem? (i := 64) (by decide +kernel), ⟨by decide +kernel, by decide +kernel⟩, by decide +kernel, by decide, rfl⟩, List.mem_of_getElem? (i := 1019) (by decide +kernel), List.mem_of_getElem? (i := 21) (by decide +kernel)⟩
abbrev q_X3_start : zY := (yX3_start, cX3_start, 3, none, [])
theorem ok_X3_start : zOkV q_X3_start 2 := ⟨⟨List.mem_of_getElem? (i := 994) (by decide +kernel), List.mem_of_getElem? (i := 64) (by decide +kernel), ⟨by decide +kernel, by decide +kernel⟩, by decide +kernel, by decide, rfl⟩, List.mem_of_getElem? (i := 993) (by decide +kernel), List.mem_of_getElem? (i := 16) (by decide +kernel)⟩
abbrev q_X4_hasTwoAccidentals : zY := (yX4_hasTwoAccidentals, cX4_hasTwoAccidentals, 1, (some .boolean), [])
theorem ok_X4_hasTwoAccidentals : zOkS q_X4_hasTwoAccidentals 1 := ⟨⟨List.mem_of_getElem? (i := 581) (by decide +kernel), List.mem_of_getElem? (i := 71) (by decide +kernel), ⟨by decide +kernel, by decide +kernel⟩, by decide +kernel, by decide, rfl⟩, List.mem_of_getElem? (i := 580) (by decide +kernel)⟩
abbrev q_X4_natural : zY := (yX4_natural, cX4_natural, 1, (some .int), [])
theorem ok_X4_natural : zOkS q_X4_natural 1 := ⟨⟨List.mem_of_getElem? (i := 298) (by decide +kernel), List.mem_of_getElem? (i := 71) (by decide +kernel), ⟨by decide +kernel, by decide +kernel⟩, by decide +kernel, by decide, rfl⟩, List.mem_of_getElem? (i := 297) (by decide +kernel)⟩
abbrev q_X4_pitchClass : zY := (yX4_pitchClass, cX4_pitchClass, 1, (some .int), [])
theorem ok_X4_pitchClass : zOkS q_X4_pitchClass 1 := ⟨⟨List.mem_of_getElem? (i := 503) (by decide +kernel), List.mem_of_getElem? (i := 71) (by decide +kernel), ⟨by decide +kernel, by decide +kernel⟩, by decide +kernel, by decide, rfl⟩, List.mem_of_getElem? (i := 502) (by decide +kernel)⟩
abbrev q_X4_placeFrom : zY := (yX4_placeFrom, cX4_placeFrom, 2, (some .int), [])
theorem ok_X4_placeFrom : zOkS q_X4_placeFrom 2 := ⟨⟨List.mem_of_getElem? (i := 512) (by decide +kernel), List.mem_of_getElem? (i := 71) (by decide +kernel), ⟨by decide +kernel, by decide +kernel⟩, by decide +kernel, by decide, rfl⟩, List.mem_of_getElem? (i := 511) (by decide +kernel)⟩
abbrev q_X4_raised : zY := (yX4_raised, cX4_raised, 2, (some .int), [])
theorem ok_X4_raised : zOkS q_X4_raised 2 := ⟨⟨List.mem_of_getElem? (i := 574) (by decide +kernel), List.mem_of_getElem? (i := 71) (by decide +kernel), ⟨by decide +kernel, by decide +kernel⟩, by decide +kernel, by decide, rfl⟩, List.mem_of_getElem? (i := 573) (by decide +kernel)⟩
abbrev q_X4_raisedSet : zY := (yX4_raisedSet, cX4_raisedSet, 3, (some .int), [])
theorem ok_X4_raisedSet : zOkS q_X4_raisedSet 2 := ⟨⟨List.mem_of_getElem? (i := 918) (by decide +kernel), List.mem_of_getElem? (i := 71) (by decide +kernel), ⟨by decide +kernel, by decide +kernel⟩, by decide +kernel, by decide, rfl⟩, List.mem_of_getElem? (i := 917) (by decide +kernel)⟩
abbrev q_X4_spelled : zY := (yX4_spelled, cX4_spelled, 5, (some .int), [])
theorem ok_X4_spelled : zOkS q_X4_spelled 3 := ⟨⟨List.mem_of_getElem? (i := 577) (by decide +kernel), List.mem_of_getElem? (i := 71) (by decide +kernel), ⟨by decide +kernel, by decide +kernel⟩, by decide +kernel, by decide, rfl⟩, List.mem_of_getElem? (i := 576) (by decide +kernel)⟩
abbrev q_X4_write : zY := (yX4_write, cX4_write, 4, none, [])
theorem ok_X4_write : zOkS q_X4_write 2 := ⟨⟨List.mem_of_getElem? (i := 825) (by decide +kernel), List.mem_of_getElem? (i := 71) (by decide +kernel), ⟨by decide +kernel, by decide +kernel⟩, by decide +kernel, by decide, rfl⟩, List.mem_of_getElem? (i := 824) (by decide +kernel)⟩
abbrev q_X5_at : zY := (yX5_at, cX5_at, 1, (some (.object "ChordSheet$Quality")), [])
theorem ok_X5_at : zOkS q_X5_at 1 := ⟨⟨List.mem_of_getElem? (i := 397) (by decide +kernel), List.mem_of_getElem? (i := 79) (by decide +kernel), ⟨by decide +kernel, by decide +kernel⟩, by decide +kernel, by decide, rfl⟩, List.mem_of_getElem? (i := 396) (by decide +kernel)⟩
abbrev q_X5_count : zY := (yX5_count, cX5_count, 0, (some .int), [])
theorem ok_X5_count : zOkS q_X5_count 0 := ⟨⟨List.mem_of_getElem? (i := 392) (by decide +kernel), List.mem_of_getElem? (i := 79) (by decide +kernel), ⟨by decide +kernel, by decide +kernel⟩, by decide +kernel, by decide, rfl⟩, List.mem_of_getElem? (i := 391) (by decide +kernel)⟩
abbrev q_X5_isEasyOn : zY := (yX5_isEasyOn, cX5_isEasyOn, 2, (some .boolean), [])
theorem ok_X5_isEasyOn : zOkV q_X5_isEasyOn 1 := ⟨⟨List.mem_of_getElem? (i := 599) (by decide +kernel), List.mem_of_getElem? (i := 79) (by decide +kernel), ⟨by decide +kernel, by decide +kernel⟩, by decide +kernel, by decide, rfl⟩, List.mem_of_getElem? (i := 597) (by decide +kernel), List.mem_of_getElem? (i := 598) (by decide +kernel)⟩
abbrev q_X5_tonesOn : zY := (yX5_tonesOn, cX5_tonesOn, 2, (some .int), [])
theorem ok_X5_tonesOn : zOkV q_X5_tonesOn 1 := ⟨⟨List.mem_of_getElem? (i := 915) (by decide +kernel), List.mem_of_getElem? (i := 79) (by decide +kernel), ⟨by decide +kernel, by decide +kernel⟩, by decide +kernel, by decide, rfl⟩, List.mem_of_getElem? (i := 913) (by decide +kernel), List.mem_of_getElem? (i := 914) (by decide +kernel)⟩
abbrev q_X6_bass : zY := (yX6_bass, cX6_bass, 1, (some .int), [])
theorem ok_X6_bass : zOkV q_X6_bass 0 := ⟨⟨List.mem_of_getElem? (i := 866) (by decide +kernel), List.mem_of_getElem? (i := 63) (by decide +kernel), ⟨by decide +kernel, by decide +kernel⟩, by decide +kernel, by decide, rfl⟩, List.mem_of_getElem? (i := 864) (by decide +kernel), List.mem_of_getElem? (i := 865) (by decide +kernel)⟩
abbrev q_X6_init : zY := (yX6_init, cX6_init, 2, none, [])
theorem ok_X6_init : zOkI q_X6_init 1 := ⟨⟨List.mem_of_getElem? (i := 161) (by decide +kernel), List.mem_of_getElem? (i := 63) (by decide +kernel), ⟨by decide +kernel, by decide +kernel⟩, by decide +kernel, by decide, rfl⟩, List.mem_of_getElem? (i := 160) (by decide +kernel), rfl, rfl⟩
abbrev q_X6_quality : zY := (yX6_quality, cX6_quality, 1, (some .int), [])
theorem ok_X6_quality : zOkV q_X6_quality 0 := ⟨⟨List.mem_of_getElem? (i := 862) (by decide +kernel), List.mem_of_getElem? (i := 63) (by decide +kernel), ⟨by decide +kernel, by decide +kernel⟩, by decide +kernel, by decide, rfl⟩, List.mem_of_getElem? (i := 860) (by decide +kernel), List.mem_of_getElem? (i := 861) (by decide +kernel)⟩
abbrev q_X6_readChord : zY := (yX6_readChord, cX6_readChord, 2, none, [])
theorem ok_X6_readChord : zOkV q_X6_readChord 1 := ⟨⟨List.mem_of_getElem? (i := 291) (by decide +kernel), List.mem_of_getElem? (i := 63) (by decide +kernel), ⟨by decide +kernel, by decide +kernel⟩, by decide +kernel, by decide, rfl⟩, List.mem_of_getElem? (i := 290) (by decide +kernel), List.mem_of_getElem? (i := 0) (by decide +kernel)⟩
abbrev q_X6_readNote : zY := (yX6_readNote, cX6_readNote, 3, (some .int), [])
theorem ok_X6_readNote : zOkV q_X6_readNote 0 := ⟨⟨List.mem_of_getElem? (i := 295) (by decide +kernel), List.mem_of_getElem? (i := 63) (by decide +kernel), ⟨by decide +kernel, by decide +kernel⟩, by decide +kernel, by decide, rfl⟩, List.mem_of_getElem? (i := 294) (by decide +kernel), List.mem_of_getElem? (i := 1) (by decide +kernel)⟩
abbrev q_X6_readQuality : zY := (yX6_readQuality, cX6_readQuality, 6, (some .boolean), [])
theorem ok_X6_readQuality : zOkV q_X6_readQuality 0 := ⟨⟨List.mem_of_getElem? (i := 389) (by decide +kernel), List.mem_of_getElem? (i := 63) (by decide +kernel), ⟨by decide +kernel, by decide +kernel⟩, by decide +kernel, by decide, rfl⟩, List.mem_of_getElem? (i := 388) (by decide +kernel), List.mem_of_getElem? (i := 2) (by decide +kernel)⟩
abbrev q_X6_readSheet : zY := (yX6_readSheet, cX6_readSheet, 4, (some .int), [])
theorem ok_X6_readSheet : zOkV q_X6_readSheet 1 := ⟨⟨List.mem_of_getElem? (i := 274) (by decide +kernel), List.mem_of_getElem? (i := 63) (by decide +kernel), ⟨by decide +kernel, by decide +kernel⟩, by decide +kernel, by decide, rfl⟩, List.mem_of_getElem? (i := 272) (by decide +kernel), List.mem_of_getElem? (i := 273) (by decide +kernel)⟩
abbrev q_X6_readSingleChord : zY := (yX6_readSingleChord, cX6_readSingleChord, 1, (some .int), [])
theorem ok_X6_readSingleChord : zOkV q_X6_readSingleChord 0 := ⟨⟨List.mem_of_getElem? (i := 854) (by decide +kernel), List.mem_of_getElem? (i := 63) (by decide +kernel), ⟨by decide +kernel, by decide +kernel⟩, by decide +kernel, by decide, rfl⟩, List.mem_of_getElem? (i := 852) (by decide +kernel), List.mem_of_getElem? (i := 853) (by decide +kernel)⟩
abbrev q_X6_root : zY := (yX6_root, cX6_root, 1, (some .int), [])
theorem ok_X6_root : zOkV q_X6_root 0 := ⟨⟨List.mem_of_getElem? (i := 858) (by decide +kernel), List.mem_of_getElem? (i := 63) (by decide +kernel), ⟨by decide +kernel, by decide +kernel⟩, by decide +kernel, by decide, rfl⟩, List.mem_of_getElem? (i := 856) (by decide +kernel), List.mem_of_getElem? (i := 857) (by decide +kernel)⟩
abbrev q_X6_sharedLength : zY := (yX6_sharedLength, cX6_sharedLength, 3, (some .int), [])
theorem ok_X6_sharedLength : zOkV q_X6_sharedLength 1 := ⟨⟨List.mem_of_getElem? (i := 403) (by decide +kernel), List.mem_of_getElem? (i := 63) (by decide +kernel), ⟨by decide +kernel, by decide +kernel⟩, by decide +kernel, by decide, rfl⟩, List.mem_of_getElem? (i := 402) (by decide +kernel), List.mem_of_getElem? (i := 3) (by decide +kernel)⟩
abbrev q_X7_add : zY := (yX7_add, cX7_add, 2, none, [])
theorem ok_X7_add : zOkV q_X7_add 1 := ⟨⟨List.mem_of_getElem? (i := 715) (by decide +kernel), List.mem_of_getElem? (i := 60) (by decide +kernel), ⟨by decide +kernel, by decide +kernel⟩, by decide +kernel, by decide, rfl⟩, List.mem_of_getElem? (i := 713) (by decide +kernel), List.mem_of_getElem? (i := 714) (by decide +kernel)⟩
abbrev q_X7_addAll : zY := (yX7_addAll, cX7_addAll, 3, none, [])
theorem ok_X7_addAll : zOkV q_X7_addAll 1 := ⟨⟨List.mem_of_getElem? (i := 838) (by decide +kernel), List.mem_of_getElem? (i := 60) (by decide +kernel), ⟨by decide +kernel, by decide +kernel⟩, by decide +kernel, by decide, rfl⟩, List.mem_of_getElem? (i := 836) (by decide +kernel), List.mem_of_getElem? (i := 837) (by decide +kernel)⟩
abbrev q_X7_at : zY := (yX7_at, cX7_at, 2, (some .int), [])
theorem ok_X7_at : zOkV q_X7_at 1 := ⟨⟨List.mem_of_getElem? (i := 283) (by decide +kernel), List.mem_of_getElem? (i := 60) (by decide +kernel), ⟨by decide +kernel, by decide +kernel⟩, by decide +kernel, by decide, rfl⟩, List.mem_of_getElem? (i := 281) (by decide +kernel), List.mem_of_getElem? (i := 282) (by decide +kernel)⟩
abbrev q_X7_cutTo : zY := (yX7_cutTo, cX7_cutTo, 2, none, [])
theorem ok_X7_cutTo : zOkV q_X7_cutTo 1 := ⟨⟨List.mem_of_getElem? (i := 266) (by decide +kernel), List.mem_of_getElem? (i := 60) (by decide +kernel), ⟨by decide +kernel, by decide +kernel⟩, by decide +kernel, by decide, rfl⟩, List.mem_of_getElem? (i := 264) (by decide +kernel), List.mem_of_getElem? (i := 265) (by decide +kernel)⟩
abbrev q_X7_fillTo : zY := (yX7_fillTo, cX7_fillTo, 4, none, [])
theorem ok_X7_fillTo : zOkV q_X7_fillTo 2 := ⟨⟨List.mem_of_getElem? (i := 1029) (by decide +kernel), List.mem_of_getElem? (i := 60) (by decide +kernel), ⟨by decide +kernel, by decide +kernel⟩, by decide +kernel, by decide, rfl⟩, List.mem_of_getElem? (i := 1027) (by decide +kernel), List.mem_of_getElem? (i := 1028) (by decide +kernel)⟩
abbrev q_X7_init : zY := (yX7_init, cX7_init, 1, none, [])
theorem ok_X7_init : zOkI q_X7_init 0 := ⟨⟨List.mem_of_getElem? (i := 97) (by decide +kernel), List.mem_of_getElem? (i := 60) (by decide +kernel), ⟨by decide +kernel, by decide +kernel⟩, by decide +kernel, by decide, rfl⟩, List.mem_of_getElem? (i := 96) (by decide +kernel), rfl, rfl⟩
abbrev q_X7_size : zY := (yX7_size, cX7_size, 1, (some .int), [])
theorem ok_X7_size : zOkV q_X7_size 0 := ⟨⟨List.mem_of_getElem? (i := 262) (by decide +kernel), List.mem_of_getElem? (i := 60) (by decide +kernel), ⟨by decide +kernel, by decide +kernel⟩, by decide +kernel, by decide, rfl⟩, List.mem_of_getElem? (i := 260) (by decide +kernel), List.mem_of_getElem? (i := 261) (by decide +kernel)⟩
abbrev q_X8_addLetter : zY := (yX8_addLetter, cX8_addLetter, 3, none, [])
theorem ok_X8_addLetter : zOkV q_X8_addLetter 1 := ⟨⟨List.mem_of_getElem? (i := 472) (by decide +kernel), List.mem_of_getElem? (i := 61) (by decide +kernel), ⟨by decide +kernel, by decide +kernel⟩, by decide +kernel, by decide, rfl⟩, List.mem_of_getElem? (i := 470) (by decide +kernel), List.mem_of_getElem? (i := 471) (by decide +kernel)⟩
abbrev q_X8_addTo : zY := (yX8_addTo, cX8_addTo, 8, (some .long), [])
theorem ok_X8_addTo : zOkV q_X8_addTo 1 := ⟨⟨List.mem_of_getElem? (i := 612) (by decide +kernel), List.mem_of_getElem? (i := 61) (by decide +kernel), ⟨by decide +kernel, by decide +kernel⟩, by decide +kernel, by decide, rfl⟩, List.mem_of_getElem? (i := 610) (by decide +kernel), List.mem_of_getElem? (i := 611) (by decide +kernel)⟩
abbrev q_X8_append : zY := (yX8_append, cX8_append, 5, none, [])
theorem ok_X8_append : zOkV q_X8_append 3 := ⟨⟨List.mem_of_getElem? (i := 428) (by decide +kernel), List.mem_of_getElem? (i := 61) (by decide +kernel), ⟨by decide +kernel, by decide +kernel⟩, by decide +kernel, by decide, rfl⟩, List.mem_of_getElem? (i := 426) (by decide +kernel), List.mem_of_getElem? (i := 427) (by decide +kernel)⟩
abbrev q_X8_beginLine : zY := (yX8_beginLine, cX8_beginLine, 2, none, [])
theorem ok_X8_beginLine : zOkV q_X8_beginLine 0 := ⟨⟨List.mem_of_getElem? (i := 468) (by decide +kernel), List.mem_of_getElem? (i := 61) (by decide +kernel), ⟨by decide +kernel, by decide +kernel⟩, by decide +kernel, by decide, rfl⟩, List.mem_of_getElem? (i := 466) (by decide +kernel), List.mem_of_getElem? (i := 467) (by decide +kernel)⟩
abbrev q_X8_chordCount : zY := (yX8_chordCount, cX8_chordCount, 1, (some .int), [])
theorem ok_X8_chordCount : zOkV q_X8_chordCount 0 := ⟨⟨List.mem_of_getElem? (i := 287) (by decide +kernel), List.mem_of_getElem? (i := 61) (by decide +kernel), ⟨by decide +kernel, by decide +kernel⟩, by decide +kernel, by decide, rfl⟩, List.mem_of_getElem? (i := 285) (by decide +kernel), List.mem_of_getElem? (i := 286) (by decide +kernel)⟩
abbrev q_X8_clear : zY := (yX8_clear, cX8_clear, 1, none, [])
theorem ok_X8_clear : zOkV q_X8_clear 0 := ⟨⟨List.mem_of_getElem? (i := 278) (by decide +kernel), List.mem_of_getElem? (i := 61) (by decide +kernel), ⟨by decide +kernel, by decide +kernel⟩, by decide +kernel, by decide, rfl⟩, List.mem_of_getElem? (i := 276) (by decide +kernel), List.mem_of_getElem? (i := 277) (by decide +kernel)⟩
abbrev q_X8_copyFrom : zY := (yX8_copyFrom, cX8_copyFrom, 2, none, [])
theorem ok_X8_copyFrom : zOkV q_X8_copyFrom 1 := ⟨⟨List.mem_of_getElem? (i := 487) (by decide +kernel), List.mem_of_getElem? (i := 61) (by decide +kernel), ⟨by decide +kernel, by decide +kernel⟩, by decide +kernel, by decide, rfl⟩, List.mem_of_getElem? (i := 485) (by decide +kernel), List.mem_of_getElem? (i := 486) (by decide +kernel)⟩
abbrev q_X8_countUpTo : zY := (yX8_countUpTo, cX8_countUpTo, 4, (some .int), [])
theorem ok_X8_countUpTo : zOkV q_X8_countUpTo 2 := ⟨⟨List.mem_of_getElem? (i := 444) (by decide +kernel), List.mem_of_getElem? (i := 61) (by decide +kernel), ⟨by decide +kernel, by decide +kernel⟩, by decide +kernel, by decide, rfl⟩, List.mem_of_getElem? (i := 442) (by decide +kernel), List.mem_of_getElem? (i := 443) (by decide +kernel)⟩
abbrev q_X8_get : zY := (yX8_get, cX8_get, 4, (some .int), [])
theorem ok_X8_get : zOkV q_X8_get 2 := ⟨⟨List.mem_of_getElem? (i := 452) (by decide +kernel), List.mem_of_getElem? (i := 61) (by decide +kernel), ⟨by decide +kernel, by decide +kernel⟩, by decide +kernel, by decide, rfl⟩, List.mem_of_getElem? (i := 450) (by decide +kernel), List.mem_of_getElem? (i := 451) (by decide +kernel)⟩
abbrev q_X8_hasLine : zY := (yX8_hasLine, cX8_hasLine, 2, (some .boolean), [])
theorem ok_X8_hasLine : zOkV q_X8_hasLine 1 := ⟨⟨List.mem_of_getElem? (i := 739) (by decide +kernel), List.mem_of_getElem? (i := 61) (by decide +kernel), ⟨by decide +kernel, by decide +kernel⟩, by decide +kernel, by decide, rfl⟩, List.mem_of_getElem? (i := 737) (by decide +kernel), List.mem_of_getElem? (i := 738) (by decide +kernel)⟩
abbrev q_X8_init : zY := (yX8_init, cX8_init, 1, none, [])
theorem ok_X8_init : zOkI q_X8_init 0 := ⟨⟨List.mem_of_getElem? (i := 111) (by decide +kernel), List.mem_of_getElem? (i := 61) (by decide +kernel), ⟨by decide +kernel, by decide +kernel⟩, by decide +kernel, by decide, rfl⟩, List.mem_of_getElem? (i := 110) (by decide +kernel), rfl, rfl⟩
abbrev q_X8_insert : zY := (yX8_insert, cX8_insert, 8, (some .int), [])
theorem ok_X8_insert : zOkV q_X8_insert 5 := ⟨⟨List.mem_of_getElem? (i := 440) (by decide +kernel), List.mem_of_getElem? (i := 61) (by decide +kernel), ⟨by decide +kernel, by decide +kernel⟩, by decide +kernel, by decide, rfl⟩, List.mem_of_getElem? (i := 438) (by decide +kernel), List.mem_of_getElem? (i := 439) (by decide +kernel)⟩
abbrev q_X8_isAt : zY := (yX8_isAt, cX8_isAt, 4, (some .boolean), [])
theorem ok_X8_isAt : zOkV q_X8_isAt 3 := ⟨⟨List.mem_of_getElem? (i := 1025) (by decide +kernel), List.mem_of_getElem? (i := 61) (by decide +kernel), ⟨by decide +kernel, by decide +kernel⟩, by decide +kernel, by decide, rfl⟩, List.mem_of_getElem? (i := 1023) (by decide +kernel), List.mem_of_getElem? (i := 1024) (by decide +kernel)⟩
abbrev q_X8_isUpTo : zY := (yX8_isUpTo, cX8_isUpTo, 5, (some .boolean), [])
theorem ok_X8_isUpTo : zOkV q_X8_isUpTo 3 := ⟨⟨List.mem_of_getElem? (i := 448) (by decide +kernel), List.mem_of_getElem? (i := 61) (by decide +kernel), ⟨by decide +kernel, by decide +kernel⟩, by decide +kernel, by decide, rfl⟩, List.mem_of_getElem? (i := 447) (by decide +kernel), List.mem_of_getElem? (i := 5) (by decide +kernel)⟩
abbrev q_X8_lengthOf : zY := (yX8_lengthOf, cX8_lengthOf, 2, (some .int), [])
theorem ok_X8_lengthOf : zOkV q_X8_lengthOf 1 := ⟨⟨List.mem_of_getElem? (i := 432) (by decide +kernel), List.mem_of_getElem? (i := 61) (by decide +kernel), ⟨by decide +kernel, by decide +kernel⟩, by decide +kernel, by decide, rfl⟩, List.mem_of_getElem? (i := 430) (by decide +kernel), List.mem_of_getElem? (i := 431) (by decide +kernel)⟩
abbrev q_X8_letterAt : zY := (yX8_letterAt, cX8_letterAt, 5, (some .int), [])
theorem ok_X8_letterAt : zOkV q_X8_letterAt 2 := ⟨⟨List.mem_of_getElem? (i := 617) (by decide +kernel), List.mem_of_getElem? (i := 61) (by decide +kernel), ⟨by decide +kernel, by decide +kernel⟩, by decide +kernel, by decide, rfl⟩, List.mem_of_getElem? (i := 615) (by decide +kernel), List.mem_of_getElem? (i := 616) (by decide +kernel)⟩
abbrev q_X8_lineCount : zY := (yX8_lineCount, cX8_lineCount, 1, (some .int), [])
theorem ok_X8_lineCount : zOkV q_X8_lineCount 0 := ⟨⟨List.mem_of_getElem? (i := 538) (by decide +kernel), List.mem_of_getElem? (i := 61) (by decide +kernel), ⟨by decide +kernel, by decide +kernel⟩, by decide +kernel, by decide, rfl⟩, List.mem_of_getElem? (i := 536) (by decide +kernel), List.mem_of_getElem? (i := 537) (by decide +kernel)⟩
abbrev q_X8_put : zY := (yX8_put, cX8_put, 5, none, [])
theorem ok_X8_put : zOkV q_X8_put 4 := ⟨⟨List.mem_of_getElem? (i := 463) (by decide +kernel), List.mem_of_getElem? (i := 61) (by decide +kernel), ⟨by decide +kernel, by decide +kernel⟩, by decide +kernel, by decide, rfl⟩, List.mem_of_getElem? (i := 461) (by decide +kernel), List.mem_of_getElem? (i := 462) (by decide +kernel)⟩
abbrev q_X8_set : zY := (yX8_set, cX8_set, 5, none, [])
theorem ok_X8_set : zOkV q_X8_set 3 := ⟨⟨List.mem_of_getElem? (i := 459) (by decide +kernel), List.mem_of_getElem? (i := 61) (by decide +kernel), ⟨by decide +kernel, by decide +kernel⟩, by decide +kernel, by decide, rfl⟩, List.mem_of_getElem? (i := 458) (by decide +kernel), List.mem_of_getElem? (i := 6) (by decide +kernel)⟩
abbrev q_X8_spell : zY := (yX8_spell, cX8_spell, 5, (some .int), [])
theorem ok_X8_spell : zOkV q_X8_spell 2 := ⟨⟨List.mem_of_getElem? (i := 567) (by decide +kernel), List.mem_of_getElem? (i := 61) (by decide +kernel), ⟨by decide +kernel, by decide +kernel⟩, by decide +kernel, by decide, rfl⟩, List.mem_of_getElem? (i := 565) (by decide +kernel), List.mem_of_getElem? (i := 566) (by decide +kernel)⟩
abbrev q_X8_spellField : zY := (yX8_spellField, cX8_spellField, 8, (some .int), [])
theorem ok_X8_spellField : zOkV q_X8_spellField 4 := ⟨⟨List.mem_of_getElem? (i := 571) (by decide +kernel), List.mem_of_getElem? (i := 61) (by decide +kernel), ⟨by decide +kernel, by decide +kernel⟩, by decide +kernel, by decide, rfl⟩, List.mem_of_getElem? (i := 570) (by decide +kernel), List.mem_of_getElem? (i := 9) (by decide +kernel)⟩
abbrev q_X8_startOf : zY := (yX8_startOf, cX8_startOf, 2, (some .int), [])
theorem ok_X8_startOf : zOkV q_X8_startOf 1 := ⟨⟨List.mem_of_getElem? (i := 436) (by decide +kernel), List.mem_of_getElem? (i := 61) (by decide +kernel), ⟨by decide +kernel, by decide +kernel⟩, by decide +kernel, by decide, rfl⟩, List.mem_of_getElem? (i := 435) (by decide +kernel), List.mem_of_getElem? (i := 4) (by decide +kernel)⟩
abbrev q_X8_takeOut : zY := (yX8_takeOut, cX8_takeOut, 3, none, [])
theorem ok_X8_takeOut : zOkV q_X8_takeOut 1 := ⟨⟨List.mem_of_getElem? (i := 891) (by decide +kernel), List.mem_of_getElem? (i := 61) (by decide +kernel), ⟨by decide +kernel, by decide +kernel⟩, by decide +kernel, by decide, rfl⟩, List.mem_of_getElem? (i := 889) (by decide +kernel), List.mem_of_getElem? (i := 890) (by decide +kernel)⟩
abbrev q_X8_tonesOf : zY := (yX8_tonesOf, cX8_tonesOf, 5, (some .int), [])
theorem ok_X8_tonesOf : zOkV q_X8_tonesOf 1 := ⟨⟨List.mem_of_getElem? (i := 910) (by decide +kernel), List.mem_of_getElem? (i := 61) (by decide +kernel), ⟨by decide +kernel, by decide +kernel⟩, by decide +kernel, by decide, rfl⟩, List.mem_of_getElem? (i := 908) (by decide +kernel), List.mem_of_getElem? (i := 909) (by decide +kernel)⟩
abbrev q_X8_writeName : zY := (yX8_writeName, cX8_writeName, 4, none, [])
theorem ok_X8_writeName : zOkV q_X8_writeName 2 := ⟨⟨List.mem_of_getElem? (i := 822) (by decide +kernel), List.mem_of_getElem? (i := 61) (by decide +kernel), ⟨by decide +kernel, by decide +kernel⟩, by decide +kernel, by decide, rfl⟩, List.mem_of_getElem? (i := 820) (by decide +kernel), List.mem_of_getElem? (i := 821) (by decide +kernel)⟩
abbrev q_X9_addChord : zY := (yX9_addChord, cX9_addChord, 4, (some .int), [])
theorem ok_X9_addChord : zOkV q_X9_addChord 2 := ⟨⟨List.mem_of_getElem? (i := 874) (by decide +kernel), List.mem_of_getElem? (i := 59) (by decide +kernel), ⟨by decide +kernel, by decide +kernel⟩, by decide +kernel, by decide, rfl⟩, List.mem_of_getElem? (i := 872) (by decide +kernel), List.mem_of_getElem? (i := 873) (by decide +kernel)⟩
abbrev q_X9_bassOf : zY := (yX9_bassOf, cX9_bassOf, 2, (some .int), [])
theorem ok_X9_bassOf : zOkV q_X9_bassOf 1 := ⟨⟨List.mem_of_getElem? (i := 806) (by decide +kernel), List.mem_of_getElem? (i := 59) (by decide +kernel), ⟨by decide +kernel, by decide +kernel⟩, by decide +kernel, by decide, rfl⟩, List.mem_of_getElem? (i := 804) (by decide +kernel), List.mem_of_getElem? (i := 805) (by decide +kernel)⟩
abbrev q_X9_bestCapo : zY := (yX9_bestCapo, cX9_bestCapo, 1, (some .int), [])
theorem ok_X9_bestCapo : zOkV q_X9_bestCapo 0 := ⟨⟨List.mem_of_getElem? (i := 585) (by decide +kernel), List.mem_of_getElem? (i := 59) (by decide +kernel), ⟨by decide +kernel, by decide +kernel⟩, by decide +kernel, by decide, rfl⟩, List.mem_of_getElem? (i := 583) (by decide +kernel), List.mem_of_getElem? (i := 584) (by decide +kernel)⟩
abbrev q_X9_chords : zY := (yX9_chords, cX9_chords, 1, (some .int), [])
theorem ok_X9_chords : zOkV q_X9_chords 0 := ⟨⟨List.mem_of_getElem? (i := 542) (by decide +kernel), List.mem_of_getElem? (i := 59) (by decide +kernel), ⟨by decide +kernel, by decide +kernel⟩, by decide +kernel, by decide, rfl⟩, List.mem_of_getElem? (i := 540) (by decide +kernel), List.mem_of_getElem? (i := 541) (by decide +kernel)⟩
abbrev q_X9_clearText : zY := (yX9_clearText, cX9_clearText, 2, (some .int), [])
theorem ok_X9_clearText : zOkV q_X9_clearText 0 := ⟨⟨List.mem_of_getElem? (i := 258) (by decide +kernel), List.mem_of_getElem? (i := 59) (by decide +kernel), ⟨by decide +kernel, by decide +kernel⟩, by decide +kernel, by decide, rfl⟩, List.mem_of_getElem? (i := 256) (by decide +kernel), List.mem_of_getElem? (i := 257) (by decide +kernel)⟩
abbrev q_X9_columnOf : zY := (yX9_columnOf, cX9_columnOf, 2, (some .int), [])
theorem ok_X9_columnOf : zOkV q_X9_columnOf 1 := ⟨⟨List.mem_of_getElem? (i := 785) (by decide +kernel), List.mem_of_getElem? (i := 59) (by decide +kernel), ⟨by decide +kernel, by decide +kernel⟩, by decide +kernel, by decide, rfl⟩, List.mem_of_getElem? (i := 783) (by decide +kernel), List.mem_of_getElem? (i := 784) (by decide +kernel)⟩
abbrev q_X9_commonTones : zY := (yX9_commonTones, cX9_commonTones, 2, (some .int), [])
theorem ok_X9_commonTones : zOkV q_X9_commonTones 1 := ⟨⟨List.mem_of_getElem? (i := 905) (by decide +kernel), List.mem_of_getElem? (i := 59) (by decide +kernel), ⟨by decide +kernel, by decide +kernel⟩, by decide +kernel, by decide, rfl⟩, List.mem_of_getElem? (i := 903) (by decide +kernel), List.mem_of_getElem? (i := 904) (by decide +kernel)⟩
abbrev q_X9_degree : zY := (yX9_degree, cX9_degree, 3, (some .int), [])
theorem ok_X9_degree : zOkV q_X9_degree 1 := ⟨⟨List.mem_of_getElem? (i := 931) (by decide +kernel), List.mem_of_getElem? (i := 59) (by decide +kernel), ⟨by decide +kernel, by decide +kernel⟩, by decide +kernel, by decide, rfl⟩, List.mem_of_getElem? (i := 929) (by decide +kernel), List.mem_of_getElem? (i := 930) (by decide +kernel)⟩
abbrev q_X9_difficulty : zY := (yX9_difficulty, cX9_difficulty, 2, (some .int), [])
theorem ok_X9_difficulty : zOkV q_X9_difficulty 1 := ⟨⟨List.mem_of_getElem? (i := 977) (by decide +kernel), List.mem_of_getElem? (i := 59) (by decide +kernel), ⟨by decide +kernel, by decide +kernel⟩, by decide +kernel, by decide, rfl⟩, List.mem_of_getElem? (i := 975) (by decide +kernel), List.mem_of_getElem? (i := 976) (by decide +kernel)⟩
abbrev q_X9_findKey : zY := (yX9_findKey, cX9_findKey, 1, (some .int), [])
theorem ok_X9_findKey : zOkV q_X9_findKey 0 := ⟨⟨List.mem_of_getElem? (i := 559) (by decide +kernel), List.mem_of_getElem? (i := 59) (by decide +kernel), ⟨by decide +kernel, by decide +kernel⟩, by decide +kernel, by decide, rfl⟩, List.mem_of_getElem? (i := 557) (by decide +kernel), List.mem_of_getElem? (i := 558) (by decide +kernel)⟩
abbrev q_X9_fingerprint : zY := (yX9_fingerprint, cX9_fingerprint, 3, (some .long), [])
theorem ok_X9_fingerprint : zOkV q_X9_fingerprint 0 := ⟨⟨List.mem_of_getElem? (i := 607) (by decide +kernel), List.mem_of_getElem? (i := 59) (by decide +kernel), ⟨by decide +kernel, by decide +kernel⟩, by decide +kernel, by decide, rfl⟩, List.mem_of_getElem? (i := 605) (by decide +kernel), List.mem_of_getElem? (i := 606) (by decide +kernel)⟩
abbrev q_X9_init : zY := (yX9_init, cX9_init, 1, none, [])
theorem ok_X9_init : zOkI q_X9_init 0 := ⟨⟨List.mem_of_getElem? (i := 89) (by decide +kernel), List.mem_of_getElem? (i := 59) (by decide +kernel), ⟨by decide +kernel, by decide +kernel⟩, by decide +kernel, by decide, rfl⟩, List.mem_of_getElem? (i := 88) (by decide +kernel), rfl, rfl⟩
abbrev q_X9_isMinor : zY := (yX9_isMinor, cX9_isMinor, 1, (some .boolean), [])
theorem ok_X9_isMinor : zOkV q_X9_isMinor 0 := ⟨⟨List.mem_of_getElem? (i := 551) (by decide +kernel), List.mem_of_getElem? (i := 59) (by decide +kernel), ⟨by decide +kernel, by decide +kernel⟩, by decide +kernel, by decide, rfl⟩, List.mem_of_getElem? (i := 549) (by decide +kernel), List.mem_of_getElem? (i := 550) (by decide +kernel)⟩
abbrev q_X9_lineOf : zY := (yX9_lineOf, cX9_lineOf, 2, (some .int), [])
theorem ok_X9_lineOf : zOkV q_X9_lineOf 1 := ⟨⟨List.mem_of_getElem? (i := 772) (by decide +kernel), List.mem_of_getElem? (i := 59) (by decide +kernel), ⟨by decide +kernel, by decide +kernel⟩, by decide +kernel, by decide, rfl⟩, List.mem_of_getElem? (i := 770) (by decide +kernel), List.mem_of_getElem? (i := 771) (by decide +kernel)⟩
abbrev q_X9_lines : zY := (yX9_lines, cX9_lines, 1, (some .int), [])
theorem ok_X9_lines : zOkV q_X9_lines 0 := ⟨⟨List.mem_of_getElem? (i := 534) (by decide +kernel), List.mem_of_getElem? (i := 59) (by decide +kernel), ⟨by decide +kernel, by decide +kernel⟩, by decide +kernel, by decide, rfl⟩, List.mem_of_getElem? (i := 532) (by decide +kernel), List.mem_of_getElem? (i := 533) (by decide +kernel)⟩
abbrev q_X9_lyric : zY := (yX9_lyric, cX9_lyric, 3, (some .int), [])
theorem ok_X9_lyric : zOkV q_X9_lyric 2 := ⟨⟨List.mem_of_getElem? (i := 763) (by decide +kernel), List.mem_of_getElem? (i := 59) (by decide +kernel), ⟨by decide +kernel, by decide +kernel⟩, by decide +kernel, by decide, rfl⟩, List.mem_of_getElem? (i := 761) (by decide +kernel), List.mem_of_getElem? (i := 762) (by decide +kernel)⟩
abbrev q_X9_lyrics : zY := (yX9_lyrics, cX9_lyrics, 2, (some .int), [])
theorem ok_X9_lyrics : zOkV q_X9_lyrics 1 := ⟨⟨List.mem_of_getElem? (i := 731) (by decide +kernel), List.mem_of_getElem? (i := 59) (by decide +kernel), ⟨by decide +kernel, by decide +kernel⟩, by decide +kernel, by decide, rfl⟩, List.mem_of_getElem? (i := 729) (by decide +kernel), List.mem_of_getElem? (i := 730) (by decide +kernel)⟩
abbrev q_X9_moveChord : zY := (yX9_moveChord, cX9_moveChord, 7, (some .int), [])
theorem ok_X9_moveChord : zOkV q_X9_moveChord 2 := ⟨⟨List.mem_of_getElem? (i := 898) (by decide +kernel), List.mem_of_getElem? (i := 59) (by decide +kernel), ⟨by decide +kernel, by decide +kernel⟩, by decide +kernel, by decide, rfl⟩, List.mem_of_getElem? (i := 896) (by decide +kernel), List.mem_of_getElem? (i := 897) (by decide +kernel)⟩
abbrev q_X9_nameChar : zY := (yX9_nameChar, cX9_nameChar, 3, (some .int), [])
theorem ok_X9_nameChar : zOkV q_X9_nameChar 2 := ⟨⟨List.mem_of_getElem? (i := 813) (by decide +kernel), List.mem_of_getElem? (i := 59) (by decide +kernel), ⟨by decide +kernel, by decide +kernel⟩, by decide +kernel, by decide, rfl⟩, List.mem_of_getElem? (i := 811) (by decide +kernel), List.mem_of_getElem? (i := 812) (by decide +kernel)⟩
abbrev q_X9_pairs : zY := (yX9_pairs, cX9_pairs, 2, (some .int), [])
theorem ok_X9_pairs : zOkV q_X9_pairs 1 := ⟨⟨List.mem_of_getElem? (i := 986) (by decide +kernel), List.mem_of_getElem? (i := 59) (by decide +kernel), ⟨by decide +kernel, by decide +kernel⟩, by decide +kernel, by decide, rfl⟩, List.mem_of_getElem? (i := 984) (by decide +kernel), List.mem_of_getElem? (i := 985) (by decide +kernel)⟩
abbrev q_X9_qualityOf : zY := (yX9_qualityOf, cX9_qualityOf, 2, (some .int), [])
theorem ok_X9_qualityOf : zOkV q_X9_qualityOf 1 := ⟨⟨List.mem_of_getElem? (i := 799) (by decide +kernel), List.mem_of_getElem? (i := 59) (by decide +kernel), ⟨by decide +kernel, by decide +kernel⟩, by decide +kernel, by decide, rfl⟩, List.mem_of_getElem? (i := 797) (by decide +kernel), List.mem_of_getElem? (i := 798) (by decide +kernel)⟩
abbrev q_X9_read : zY := (yX9_read, cX9_read, 2, (some .int), [])
theorem ok_X9_read : zOkV q_X9_read 0 := ⟨⟨List.mem_of_getElem? (i := 270) (by decide +kernel), List.mem_of_getElem? (i := 59) (by decide +kernel), ⟨by decide +kernel, by decide +kernel⟩, by decide +kernel, by decide, rfl⟩, List.mem_of_getElem? (i := 268) (by decide +kernel), List.mem_of_getElem? (i := 269) (by decide +kernel)⟩
abbrev q_X9_removeChord : zY := (yX9_removeChord, cX9_removeChord, 2, (some .int), [])
theorem ok_X9_removeChord : zOkV q_X9_removeChord 1 := ⟨⟨List.mem_of_getElem? (i := 887) (by decide +kernel), List.mem_of_getElem? (i := 59) (by decide +kernel), ⟨by decide +kernel, by decide +kernel⟩, by decide +kernel, by decide, rfl⟩, List.mem_of_getElem? (i := 885) (by decide +kernel), List.mem_of_getElem? (i := 886) (by decide +kernel)⟩
abbrev q_X9_requireChord : zY := (yX9_requireChord, cX9_requireChord, 2, none, [])
theorem ok_X9_requireChord : zOkV q_X9_requireChord 1 := ⟨⟨List.mem_of_getElem? (i := 776) (by decide +kernel), List.mem_of_getElem? (i := 59) (by decide +kernel), ⟨by decide +kernel, by decide +kernel⟩, by decide +kernel, by decide, rfl⟩, List.mem_of_getElem? (i := 775) (by decide +kernel), List.mem_of_getElem? (i := 12) (by decide +kernel)⟩
abbrev q_X9_requireChordColumn : zY := (yX9_requireChordColumn, cX9_requireChordColumn, 3, none, [])
theorem ok_X9_requireChordColumn : zOkV q_X9_requireChordColumn 2 := ⟨⟨List.mem_of_getElem? (i := 878) (by decide +kernel), List.mem_of_getElem? (i := 59) (by decide +kernel), ⟨by decide +kernel, by decide +kernel⟩, by decide +kernel, by decide, rfl⟩, List.mem_of_getElem? (i := 877) (by decide +kernel), List.mem_of_getElem? (i := 14) (by decide +kernel)⟩
abbrev q_X9_requireIndex : zY := (yX9_requireIndex, cX9_requireIndex, 2, none, [])
theorem ok_X9_requireIndex : zOkV q_X9_requireIndex 1 := ⟨⟨List.mem_of_getElem? (i := 817) (by decide +kernel), List.mem_of_getElem? (i := 59) (by decide +kernel), ⟨by decide +kernel, by decide +kernel⟩, by decide +kernel, by decide, rfl⟩, List.mem_of_getElem? (i := 816) (by decide +kernel), List.mem_of_getElem? (i := 13) (by decide +kernel)⟩
abbrev q_X9_requireLine : zY := (yX9_requireLine, cX9_requireLine, 2, none, [])
theorem ok_X9_requireLine : zOkV q_X9_requireLine 1 := ⟨⟨List.mem_of_getElem? (i := 735) (by decide +kernel), List.mem_of_getElem? (i := 59) (by decide +kernel), ⟨by decide +kernel, by decide +kernel⟩, by decide +kernel, by decide, rfl⟩, List.mem_of_getElem? (i := 734) (by decide +kernel), List.mem_of_getElem? (i := 11) (by decide +kernel)⟩
abbrev q_X9_requireTonic : zY := (yX9_requireTonic, cX9_requireTonic, 4, none, [])
theorem ok_X9_requireTonic : zOkV q_X9_requireTonic 2 := ⟨⟨List.mem_of_getElem? (i := 948) (by decide +kernel), List.mem_of_getElem? (i := 59) (by decide +kernel), ⟨by decide +kernel, by decide +kernel⟩, by decide +kernel, by decide, rfl⟩, List.mem_of_getElem? (i := 947) (by decide +kernel), List.mem_of_getElem? (i := 15) (by decide +kernel)⟩
abbrev q_X9_respell : zY := (yX9_respell, cX9_respell, 1, (some .int), [])
theorem ok_X9_respell : zOkV q_X9_respell 0 := ⟨⟨List.mem_of_getElem? (i := 563) (by decide +kernel), List.mem_of_getElem? (i := 59) (by decide +kernel), ⟨by decide +kernel, by decide +kernel⟩, by decide +kernel, by decide, rfl⟩, List.mem_of_getElem? (i := 561) (by decide +kernel), List.mem_of_getElem? (i := 562) (by decide +kernel)⟩
abbrev q_X9_rootOf : zY := (yX9_rootOf, cX9_rootOf, 2, (some .int), [])
theorem ok_X9_rootOf : zOkV q_X9_rootOf 1 := ⟨⟨List.mem_of_getElem? (i := 792) (by decide +kernel), List.mem_of_getElem? (i := 59) (by decide +kernel), ⟨by decide +kernel, by decide +kernel⟩, by decide +kernel, by decide, rfl⟩, List.mem_of_getElem? (i := 790) (by decide +kernel), List.mem_of_getElem? (i := 791) (by decide +kernel)⟩
abbrev q_X9_rowChar : zY := (yX9_rowChar, cX9_rowChar, 6, (some .int), [])
theorem ok_X9_rowChar : zOkV q_X9_rowChar 4 := ⟨⟨List.mem_of_getElem? (i := 1055) (by decide +kernel), List.mem_of_getElem? (i := 59) (by decide +kernel), ⟨by decide +kernel, by decide +kernel⟩, by decide +kernel, by decide, rfl⟩, List.mem_of_getElem? (i := 1053) (by decide +kernel), List.mem_of_getElem? (i := 1054) (by decide +kernel)⟩
abbrev q_X9_rowLength : zY := (yX9_rowLength, cX9_rowLength, 5, (some .int), [])
theorem ok_X9_rowLength : zOkV q_X9_rowLength 3 := ⟨⟨List.mem_of_getElem? (i := 1042) (by decide +kernel), List.mem_of_getElem? (i := 59) (by decide +kernel), ⟨by decide +kernel, by decide +kernel⟩, by decide +kernel, by decide, rfl⟩, List.mem_of_getElem? (i := 1040) (by decide +kernel), List.mem_of_getElem? (i := 1041) (by decide +kernel)⟩
abbrev q_X9_score : zY := (yX9_score, cX9_score, 3, (some .int), [])
theorem ok_X9_score : zOkV q_X9_score 2 := ⟨⟨List.mem_of_getElem? (i := 956) (by decide +kernel), List.mem_of_getElem? (i := 59) (by decide +kernel), ⟨by decide +kernel, by decide +kernel⟩, by decide +kernel, by decide, rfl⟩, List.mem_of_getElem? (i := 954) (by decide +kernel), List.mem_of_getElem? (i := 955) (by decide +kernel)⟩
abbrev q_X9_setChord : zY := (yX9_setChord, cX9_setChord, 3, (some .int), [])
theorem ok_X9_setChord : zOkV q_X9_setChord 1 := ⟨⟨List.mem_of_getElem? (i := 850) (by decide +kernel), List.mem_of_getElem? (i := 59) (by decide +kernel), ⟨by decide +kernel, by decide +kernel⟩, by decide +kernel, by decide, rfl⟩, List.mem_of_getElem? (i := 848) (by decide +kernel), List.mem_of_getElem? (i := 849) (by decide +kernel)⟩
abbrev q_X9_setFlats : zY := (yX9_setFlats, cX9_setFlats, 3, (some .boolean), [])
theorem ok_X9_setFlats : zOkV q_X9_setFlats 1 := ⟨⟨List.mem_of_getElem? (i := 530) (by decide +kernel), List.mem_of_getElem? (i := 59) (by decide +kernel), ⟨by decide +kernel, by decide +kernel⟩, by decide +kernel, by decide, rfl⟩, List.mem_of_getElem? (i := 528) (by decide +kernel), List.mem_of_getElem? (i := 529) (by decide +kernel)⟩
abbrev q_X9_setKey : zY := (yX9_setKey, cX9_setKey, 4, (some .int), [])
theorem ok_X9_setKey : zOkV q_X9_setKey 2 := ⟨⟨List.mem_of_getElem? (i := 944) (by decide +kernel), List.mem_of_getElem? (i := 59) (by decide +kernel), ⟨by decide +kernel, by decide +kernel⟩, by decide +kernel, by decide, rfl⟩, List.mem_of_getElem? (i := 942) (by decide +kernel), List.mem_of_getElem? (i := 943) (by decide +kernel)⟩
abbrev q_X9_setSimple : zY := (yX9_setSimple, cX9_setSimple, 3, (some .boolean), [])
theorem ok_X9_setSimple : zOkV q_X9_setSimple 1 := ⟨⟨List.mem_of_getElem? (i := 526) (by decide +kernel), List.mem_of_getElem? (i := 59) (by decide +kernel), ⟨by decide +kernel, by decide +kernel⟩, by decide +kernel, by decide, rfl⟩, List.mem_of_getElem? (i := 524) (by decide +kernel), List.mem_of_getElem? (i := 525) (by decide +kernel)⟩
abbrev q_X9_setWidth : zY := (yX9_setWidth, cX9_setWidth, 3, (some .int), [])
theorem ok_X9_setWidth : zOkV q_X9_setWidth 1 := ⟨⟨List.mem_of_getElem? (i := 722) (by decide +kernel), List.mem_of_getElem? (i := 59) (by decide +kernel), ⟨by decide +kernel, by decide +kernel⟩, by decide +kernel, by decide, rfl⟩, List.mem_of_getElem? (i := 720) (by decide +kernel), List.mem_of_getElem? (i := 721) (by decide +kernel)⟩
abbrev q_X9_signature : zY := (yX9_signature, cX9_signature, 1, (some .int), [])
theorem ok_X9_signature : zOkV q_X9_signature 0 := ⟨⟨List.mem_of_getElem? (i := 555) (by decide +kernel), List.mem_of_getElem? (i := 59) (by decide +kernel), ⟨by decide +kernel, by decide +kernel⟩, by decide +kernel, by decide, rfl⟩, List.mem_of_getElem? (i := 553) (by decide +kernel), List.mem_of_getElem? (i := 554) (by decide +kernel)⟩
abbrev q_X9_takeKey : zY := (yX9_takeKey, cX9_takeKey, 4, none, [])
theorem ok_X9_takeKey : zOkV q_X9_takeKey 1 := ⟨⟨List.mem_of_getElem? (i := 517) (by decide +kernel), List.mem_of_getElem? (i := 59) (by decide +kernel), ⟨by decide +kernel, by decide +kernel⟩, by decide +kernel, by decide, rfl⟩, List.mem_of_getElem? (i := 516) (by decide +kernel), List.mem_of_getElem? (i := 8) (by decide +kernel)⟩
abbrev q_X9_tonic : zY := (yX9_tonic, cX9_tonic, 1, (some .int), [])
theorem ok_X9_tonic : zOkV q_X9_tonic 0 := ⟨⟨List.mem_of_getElem? (i := 546) (by decide +kernel), List.mem_of_getElem? (i := 59) (by decide +kernel), ⟨by decide +kernel, by decide +kernel⟩, by decide +kernel, by decide, rfl⟩, List.mem_of_getElem? (i := 544) (by decide +kernel), List.mem_of_getElem? (i := 545) (by decide +kernel)⟩
abbrev q_X9_transpose : zY := (yX9_transpose, cX9_transpose, 3, (some .int), [])
theorem ok_X9_transpose : zOkV q_X9_transpose 1 := ⟨⟨List.mem_of_getElem? (i := 964) (by decide +kernel), List.mem_of_getElem? (i := 59) (by decide +kernel), ⟨by decide +kernel, by decide +kernel⟩, by decide +kernel, by decide, rfl⟩, List.mem_of_getElem? (i := 962) (by decide +kernel), List.mem_of_getElem? (i := 963) (by decide +kernel)⟩
abbrev q_X9_type : zY := (yX9_type, cX9_type, 2, (some .int), [])
theorem ok_X9_type : zOkV q_X9_type 1 := ⟨⟨List.mem_of_getElem? (i := 628) (by decide +kernel), List.mem_of_getElem? (i := 59) (by decide +kernel), ⟨by decide +kernel, by decide +kernel⟩, by decide +kernel, by decide, rfl⟩, List.mem_of_getElem? (i := 626) (by decide +kernel), List.mem_of_getElem? (i := 627) (by decide +kernel)⟩
abbrev q_X9_undo : zY := (yX9_undo, cX9_undo, 1, (some .int), [])
theorem ok_X9_undo : zOkV q_X9_undo 0 := ⟨⟨List.mem_of_getElem? (i := 1062) (by decide +kernel), List.mem_of_getElem? (i := 59) (by decide +kernel), ⟨by decide +kernel, by decide +kernel⟩, by decide +kernel, by decide, rfl⟩, List.mem_of_getElem? (i := 1060) (by decide +kernel), List.mem_of_getElem? (i := 1061) (by decide +kernel)⟩
theorem lm_J0_492 : Cond.methodLink RJ0 492 yJ0_isLatin1_aae02 ∈ lw_tbl := List.mem_of_getElem? (i := 308) (by decide +kernel)
theorem lk_J0_9 : Cond.fieldLink RJ0 9 "java/lang/String" "value" "[B" ∈ lw_tbl := List.mem_of_getElem? (i := 1475) (by decide +kernel)
theorem lm_J0_495 : Cond.methodLink RJ0 495 yJ1_charAt_3b067 ∈ lw_tbl := List.mem_of_getElem? (i := 409) (by decide +kernel)
theorem lm_J0_498 : Cond.methodLink RJ0 498 yJ2_charAt_3b067 ∈ lw_tbl := List.mem_of_getElem? (i := 418) (by decide +kernel)
theorem lk_J0_1053 : Cond.fieldLink RJ0 1053 "jdk/internal/util/Preconditions" "SIOOBE_FORMATTER" "Ljava/util/function/BiFunction;" ∈ lw_tbl := List.mem_of_getElem? (i := 355) (by decide +kernel)
theorem lm_J0_1062 : Cond.methodLink RJ0 1062 yJ3_checkFromToIndex_8c36e ∈ lw_tbl := List.mem_of_getElem? (i := 357) (by decide +kernel)
theorem lm_J0_1059 : Cond.methodLink RJ0 1059 yJ3_checkIndex_8e157 ∈ lw_tbl := List.mem_of_getElem? (i := 415) (by decide +kernel)
theorem lk_J0_38 : Cond.fieldLink RJ0 38 "java/lang/String" "COMPACT_STRINGS" "Z" ∈ lw_tbl := List.mem_of_getElem? (i := 312) (by decide +kernel)
theorem lk_J0_15 : Cond.fieldLink RJ0 15 "java/lang/String" "coder" "B" ∈ lw_tbl := List.mem_of_getElem? (i := 1474) (by decide +kernel)
theorem lm_J0_633 : Cond.methodLink RJ0 633 yJ0_indexOf_7cf53 ∈ lw_tbl := List.mem_of_getElem? (i := 304) (by decide +kernel)
theorem lm_J0_505 : Cond.methodLink RJ0 505 yJ0_length_8abf5 ∈ lw_tbl := List.mem_of_getElem? (i := 314) (by decide +kernel)
theorem lm_J0_637 : Cond.methodLink RJ0 637 yJ1_indexOf_4cfef ∈ lw_tbl := List.mem_of_getElem? (i := 322) (by decide +kernel)
theorem lm_J0_640 : Cond.methodLink RJ0 640 yJ2_indexOf_4cfef ∈ lw_tbl := List.mem_of_getElem? (i := 337) (by decide +kernel)
theorem lm_J0_335 : Cond.methodLink RJ0 335 yJ0_coder_7d493 ∈ lw_tbl := List.mem_of_getElem? (i := 318) (by decide +kernel)
theorem lm_J1_9 : Cond.methodLink RJ1 9 yJ0_checkIndex_df160 ∈ lw_tbl := List.mem_of_getElem? (i := 412) (by decide +kernel)
theorem lm_J1_88 : Cond.methodLink RJ1 88 yJ1_canEncode_9a6ad ∈ lw_tbl := List.mem_of_getElem? (i := 325) (by decide +kernel)
theorem lm_J1_92 : Cond.methodLink RJ1 92 yJ9_max_7cf53 ∈ lw_tbl := List.mem_of_getElem? (i := 328) (by decide +kernel)
theorem lm_J1_38 : Cond.methodLink RJ1 38 yJ9_min_7cf53 ∈ lw_tbl := List.mem_of_getElem? (i := 331) (by decide +kernel)
theorem lm_J1_95 : Cond.methodLink RJ1 95 yJ1_indexOfChar_4cfef ∈ lw_tbl := List.mem_of_getElem? (i := 334) (by decide +kernel)
theorem lm_J2_67 : Cond.methodLink RJ2 67 yJ2_checkIndex_2214a ∈ lw_tbl := List.mem_of_getElem? (i := 421) (by decide +kernel)
theorem lm_J2_71 : Cond.methodLink RJ2 71 yJ2_getChar_3b067 ∈ lw_tbl := List.mem_of_getElem? (i := 363) (by decide +kernel)
theorem lm_J2_48 : Cond.methodLink RJ2 48 yJ2_length_9d52b ∈ lw_tbl := List.mem_of_getElem? (i := 349) (by decide +kernel)
theorem lm_J2_241 : Cond.methodLink RJ2 241 yJ0_checkBoundsBeginEnd_23922 ∈ lw_tbl := List.mem_of_getElem? (i := 352) (by decide +kernel)
theorem lm_J2_414 : Cond.methodLink RJ2 414 yJ0_checkIndex_df160 ∈ lw_tbl := List.mem_of_getElem? (i := 424) (by decide +kernel)
theorem lk_J2_44 : Cond.fieldLink RJ2 44 "java/lang/StringUTF16" "$assertionsDisabled" "Z" ∈ lw_tbl := List.mem_of_getElem? (i := 366) (by decide +kernel)
theorem lk_J2_59 : Cond.fieldLink RJ2 59 "java/lang/StringUTF16" "HI_BYTE_SHIFT" "I" ∈ lw_tbl := List.mem_of_getElem? (i := 368) (by decide +kernel)
theorem lk_J2_63 : Cond.fieldLink RJ2 63 "java/lang/StringUTF16" "LO_BYTE_SHIFT" "I" ∈ lw_tbl := List.mem_of_getElem? (i := 370) (by decide +kernel)
theorem lm_J2_96 : Cond.methodLink RJ2 96 yJ2_checkBoundsBeginEnd_d044e ∈ lw_tbl := List.mem_of_getElem? (i := 346) (by decide +kernel)
theorem lm_J2_244 : Cond.methodLink RJ2 244 yJ2_indexOfCharUnsafe_4cfef ∈ lw_tbl := List.mem_of_getElem? (i := 360) (by decide +kernel)
theorem lm_J2_164 : Cond.methodLink RJ2 164 yJ11_isValidCodePoint_9a6ad ∈ lw_tbl := List.mem_of_getElem? (i := 375) (by decide +kernel)
theorem lm_J2_157 : Cond.methodLink RJ2 157 yJ11_highSurrogate_5068e ∈ lw_tbl := List.mem_of_getElem? (i := 378) (by decide +kernel)
theorem lm_J2_161 : Cond.methodLink RJ2 161 yJ11_lowSurrogate_5068e ∈ lw_tbl := List.mem_of_getElem? (i := 382) (by decide +kernel)
theorem lm_J2_224 : Cond.methodLink RJ2 224 yJ9_max_7cf53 ∈ lw_tbl := List.mem_of_getElem? (i := 340) (by decide +kernel)
theorem lm_J2_183 : Cond.methodLink RJ2 183 yJ9_min_7cf53 ∈ lw_tbl := List.mem_of_getElem? (i := 341) (by decide +kernel)
theorem lm_J2_228 : Cond.methodLink RJ2 228 yJ2_indexOfChar_4cfef ∈ lw_tbl := List.mem_of_getElem? (i := 343) (by decide +kernel)
theorem lm_J2_232 : Cond.methodLink RJ2 232 yJ2_indexOfSupplementary_4cfef ∈ lw_tbl := List.mem_of_getElem? (i := 372) (by decide +kernel)
theorem lm_L_50 : Cond.methodLink RL 50 yX9_addChord ∈ lw_tbl := List.mem_of_getElem? (i := 871) (by decide +kernel)
theorem lm_L_41 : Cond.methodLink RL 41 yX9_bassOf ∈ lw_tbl := List.mem_of_getElem? (i := 803) (by decide +kernel)
theorem lm_L_32 : Cond.methodLink RL 32 yX9_columnOf ∈ lw_tbl := List.mem_of_getElem? (i := 782) (by decide +kernel)
theorem lm_L_59 : Cond.methodLink RL 59 yX9_commonTones ∈ lw_tbl := List.mem_of_getElem? (i := 902) (by decide +kernel)
theorem lm_L_62 : Cond.methodLink RL 62 yX9_degree ∈ lw_tbl := List.mem_of_getElem? (i := 928) (by decide +kernel)
theorem lm_L_75 : Cond.methodLink RL 75 yX9_difficulty ∈ lw_tbl := List.mem_of_getElem? (i := 974) (by decide +kernel)
theorem lm_L_93 : Cond.methodLink RL 93 yX9_init ∈ lw_tbl := List.mem_of_getElem? (i := 87) (by decide +kernel)
theorem lm_L_96 : Cond.methodLink RL 96 yX10_init ∈ lw_tbl := List.mem_of_getElem? (i := 1074) (by decide +kernel)
theorem lm_L_97 : Cond.methodLink RL 97 yL_type ∈ lw_tbl := List.mem_of_getElem? (i := 620) (by decide +kernel)
theorem lm_L_102 : Cond.methodLink RL 102 yX10_type ∈ lw_tbl := List.mem_of_getElem? (i := 1155) (by decide +kernel)
theorem lm_L_103 : Cond.methodLink RL 103 yX10_thrown ∈ lw_tbl := List.mem_of_getElem? (i := 1151) (by decide +kernel)
theorem lm_L_106 : Cond.methodLink RL 106 yX9_clearText ∈ lw_tbl := List.mem_of_getElem? (i := 255) (by decide +kernel)
theorem lm_L_109 : Cond.methodLink RL 109 yX10_clearText ∈ lw_tbl := List.mem_of_getElem? (i := 1166) (by decide +kernel)
theorem lm_L_110 : Cond.methodLink RL 110 yX9_read ∈ lw_tbl := List.mem_of_getElem? (i := 267) (by decide +kernel)
theorem lm_L_113 : Cond.methodLink RL 113 yX10_read ∈ lw_tbl := List.mem_of_getElem? (i := 1170) (by decide +kernel)
theorem lm_L_114 : Cond.methodLink RL 114 yX9_setSimple ∈ lw_tbl := List.mem_of_getElem? (i := 523) (by decide +kernel)
theorem lm_L_118 : Cond.methodLink RL 118 yX10_setSimple ∈ lw_tbl := List.mem_of_getElem? (i := 1225) (by decide +kernel)
theorem lm_L_119 : Cond.methodLink RL 119 yX9_setFlats ∈ lw_tbl := List.mem_of_getElem? (i := 527) (by decide +kernel)
theorem lm_L_122 : Cond.methodLink RL 122 yX10_setFlats ∈ lw_tbl := List.mem_of_getElem? (i := 1229) (by decide +kernel)
theorem lm_L_123 : Cond.methodLink RL 123 yL_setWidth ∈ lw_tbl := List.mem_of_getElem? (i := 716) (by decide +kernel)
theorem lm_L_125 : Cond.methodLink RL 125 yX10_setWidth ∈ lw_tbl := List.mem_of_getElem? (i := 1233) (by decide +kernel)
theorem lm_L_126 : Cond.methodLink RL 126 yX9_lines ∈ lw_tbl := List.mem_of_getElem? (i := 531) (by decide +kernel)
theorem lm_L_129 : Cond.methodLink RL 129 yX10_lines ∈ lw_tbl := List.mem_of_getElem? (i := 1237) (by decide +kernel)
theorem lm_L_130 : Cond.methodLink RL 130 yL_lyrics ∈ lw_tbl := List.mem_of_getElem? (i := 724) (by decide +kernel)
theorem lm_L_132 : Cond.methodLink RL 132 yX10_lyrics ∈ lw_tbl := List.mem_of_getElem? (i := 1241) (by decide +kernel)
theorem lm_L_133 : Cond.methodLink RL 133 yL_lyric ∈ lw_tbl := List.mem_of_getElem? (i := 757) (by decide +kernel)
theorem lm_L_136 : Cond.methodLink RL 136 yX10_lyric ∈ lw_tbl := List.mem_of_getElem? (i := 1253) (by decide +kernel)
theorem lm_L_137 : Cond.methodLink RL 137 yX9_chords ∈ lw_tbl := List.mem_of_getElem? (i := 539) (by decide +kernel)
theorem lm_L_140 : Cond.methodLink RL 140 yX10_chords ∈ lw_tbl := List.mem_of_getElem? (i := 1261) (by decide +kernel)
theorem lm_L_141 : Cond.methodLink RL 141 yL_lineOf ∈ lw_tbl := List.mem_of_getElem? (i := 766) (by decide +kernel)
theorem lm_L_143 : Cond.methodLink RL 143 yX10_lineOf ∈ lw_tbl := List.mem_of_getElem? (i := 1265) (by decide +kernel)
theorem lm_L_144 : Cond.methodLink RL 144 yL_columnOf ∈ lw_tbl := List.mem_of_getElem? (i := 779) (by decide +kernel)
theorem lm_L_146 : Cond.methodLink RL 146 yX10_columnOf ∈ lw_tbl := List.mem_of_getElem? (i := 1277) (by decide +kernel)
theorem lm_L_147 : Cond.methodLink RL 147 yL_rootOf ∈ lw_tbl := List.mem_of_getElem? (i := 786) (by decide +kernel)
theorem lm_L_149 : Cond.methodLink RL 149 yX10_rootOf ∈ lw_tbl := List.mem_of_getElem? (i := 1281) (by decide +kernel)
theorem lm_L_150 : Cond.methodLink RL 150 yL_qualityOf ∈ lw_tbl := List.mem_of_getElem? (i := 793) (by decide +kernel)
theorem lm_L_152 : Cond.methodLink RL 152 yX10_qualityOf ∈ lw_tbl := List.mem_of_getElem? (i := 1285) (by decide +kernel)
theorem lm_L_153 : Cond.methodLink RL 153 yL_bassOf ∈ lw_tbl := List.mem_of_getElem? (i := 800) (by decide +kernel)
theorem lm_L_155 : Cond.methodLink RL 155 yX10_bassOf ∈ lw_tbl := List.mem_of_getElem? (i := 1289) (by decide +kernel)
theorem lm_L_156 : Cond.methodLink RL 156 yL_nameChar ∈ lw_tbl := List.mem_of_getElem? (i := 807) (by decide +kernel)
theorem lm_L_158 : Cond.methodLink RL 158 yX10_nameChar ∈ lw_tbl := List.mem_of_getElem? (i := 1293) (by decide +kernel)
theorem lm_L_159 : Cond.methodLink RL 159 yL_setChord ∈ lw_tbl := List.mem_of_getElem? (i := 844) (by decide +kernel)
theorem lm_L_161 : Cond.methodLink RL 161 yX10_setChord ∈ lw_tbl := List.mem_of_getElem? (i := 1309) (by decide +kernel)
theorem lm_L_162 : Cond.methodLink RL 162 yL_addChord ∈ lw_tbl := List.mem_of_getElem? (i := 868) (by decide +kernel)
theorem lm_L_164 : Cond.methodLink RL 164 yX10_addChord ∈ lw_tbl := List.mem_of_getElem? (i := 1321) (by decide +kernel)
theorem lm_L_165 : Cond.methodLink RL 165 yL_removeChord ∈ lw_tbl := List.mem_of_getElem? (i := 881) (by decide +kernel)
theorem lm_L_167 : Cond.methodLink RL 167 yX10_removeChord ∈ lw_tbl := List.mem_of_getElem? (i := 1333) (by decide +kernel)
theorem lm_L_168 : Cond.methodLink RL 168 yL_moveChord ∈ lw_tbl := List.mem_of_getElem? (i := 892) (by decide +kernel)
theorem lm_L_170 : Cond.methodLink RL 170 yX10_moveChord ∈ lw_tbl := List.mem_of_getElem? (i := 1341) (by decide +kernel)
theorem lm_L_171 : Cond.methodLink RL 171 yL_commonTones ∈ lw_tbl := List.mem_of_getElem? (i := 899) (by decide +kernel)
theorem lm_L_173 : Cond.methodLink RL 173 yX10_commonTones ∈ lw_tbl := List.mem_of_getElem? (i := 1345) (by decide +kernel)
theorem lm_L_174 : Cond.methodLink RL 174 yL_degree ∈ lw_tbl := List.mem_of_getElem? (i := 925) (by decide +kernel)
theorem lm_L_176 : Cond.methodLink RL 176 yX10_degree ∈ lw_tbl := List.mem_of_getElem? (i := 1356) (by decide +kernel)
theorem lm_L_177 : Cond.methodLink RL 177 yX9_tonic ∈ lw_tbl := List.mem_of_getElem? (i := 543) (by decide +kernel)
theorem lm_L_180 : Cond.methodLink RL 180 yX10_tonic ∈ lw_tbl := List.mem_of_getElem? (i := 1364) (by decide +kernel)
theorem lm_L_181 : Cond.methodLink RL 181 yX9_isMinor ∈ lw_tbl := List.mem_of_getElem? (i := 548) (by decide +kernel)
theorem lm_L_185 : Cond.methodLink RL 185 yX10_isMinor ∈ lw_tbl := List.mem_of_getElem? (i := 1368) (by decide +kernel)
theorem lm_L_186 : Cond.methodLink RL 186 yX9_signature ∈ lw_tbl := List.mem_of_getElem? (i := 552) (by decide +kernel)
theorem lm_L_189 : Cond.methodLink RL 189 yX10_signature ∈ lw_tbl := List.mem_of_getElem? (i := 1372) (by decide +kernel)
theorem lm_L_190 : Cond.methodLink RL 190 yL_setKey ∈ lw_tbl := List.mem_of_getElem? (i := 938) (by decide +kernel)
theorem lm_L_193 : Cond.methodLink RL 193 yX10_setKey ∈ lw_tbl := List.mem_of_getElem? (i := 1376) (by decide +kernel)
theorem lm_L_194 : Cond.methodLink RL 194 yL_score ∈ lw_tbl := List.mem_of_getElem? (i := 950) (by decide +kernel)
theorem lm_L_196 : Cond.methodLink RL 196 yX10_score ∈ lw_tbl := List.mem_of_getElem? (i := 1383) (by decide +kernel)
theorem lm_L_197 : Cond.methodLink RL 197 yX9_findKey ∈ lw_tbl := List.mem_of_getElem? (i := 556) (by decide +kernel)
theorem lm_L_200 : Cond.methodLink RL 200 yX10_findKey ∈ lw_tbl := List.mem_of_getElem? (i := 1387) (by decide +kernel)
theorem lm_L_201 : Cond.methodLink RL 201 yL_transpose ∈ lw_tbl := List.mem_of_getElem? (i := 958) (by decide +kernel)
theorem lm_L_203 : Cond.methodLink RL 203 yX10_transpose ∈ lw_tbl := List.mem_of_getElem? (i := 1391) (by decide +kernel)
theorem lm_L_204 : Cond.methodLink RL 204 yX9_respell ∈ lw_tbl := List.mem_of_getElem? (i := 560) (by decide +kernel)
theorem lm_L_207 : Cond.methodLink RL 207 yX10_respell ∈ lw_tbl := List.mem_of_getElem? (i := 1403) (by decide +kernel)
theorem lm_L_208 : Cond.methodLink RL 208 yL_difficulty ∈ lw_tbl := List.mem_of_getElem? (i := 971) (by decide +kernel)
theorem lm_L_210 : Cond.methodLink RL 210 yX10_difficulty ∈ lw_tbl := List.mem_of_getElem? (i := 1407) (by decide +kernel)
theorem lm_L_211 : Cond.methodLink RL 211 yX9_bestCapo ∈ lw_tbl := List.mem_of_getElem? (i := 582) (by decide +kernel)
theorem lm_L_214 : Cond.methodLink RL 214 yX10_bestCapo ∈ lw_tbl := List.mem_of_getElem? (i := 1418) (by decide +kernel)
theorem lm_L_215 : Cond.methodLink RL 215 yL_pairs ∈ lw_tbl := List.mem_of_getElem? (i := 980) (by decide +kernel)
theorem lm_L_217 : Cond.methodLink RL 217 yX10_pairs ∈ lw_tbl := List.mem_of_getElem? (i := 1422) (by decide +kernel)
theorem lm_L_218 : Cond.methodLink RL 218 yL_rowLength ∈ lw_tbl := List.mem_of_getElem? (i := 1036) (by decide +kernel)
theorem lm_L_221 : Cond.methodLink RL 221 yX10_rowLength ∈ lw_tbl := List.mem_of_getElem? (i := 1446) (by decide +kernel)
theorem lm_L_222 : Cond.methodLink RL 222 yL_rowChar ∈ lw_tbl := List.mem_of_getElem? (i := 1049) (by decide +kernel)
theorem lm_L_225 : Cond.methodLink RL 225 yX10_rowChar ∈ lw_tbl := List.mem_of_getElem? (i := 1458) (by decide +kernel)
theorem lm_L_226 : Cond.methodLink RL 226 yL_undo ∈ lw_tbl := List.mem_of_getElem? (i := 1056) (by decide +kernel)
theorem lm_L_229 : Cond.methodLink RL 229 yX10_undo ∈ lw_tbl := List.mem_of_getElem? (i := 1462) (by decide +kernel)
theorem lm_L_230 : Cond.methodLink RL 230 yX9_fingerprint ∈ lw_tbl := List.mem_of_getElem? (i := 604) (by decide +kernel)
theorem lm_L_234 : Cond.methodLink RL 234 yX10_fingerprint ∈ lw_tbl := List.mem_of_getElem? (i := 1466) (by decide +kernel)
theorem lm_L_29 : Cond.methodLink RL 29 yX9_lineOf ∈ lw_tbl := List.mem_of_getElem? (i := 769) (by decide +kernel)
theorem lm_L_25 : Cond.methodLink RL 25 yX9_lyric ∈ lw_tbl := List.mem_of_getElem? (i := 760) (by decide +kernel)
theorem lm_L_20 : Cond.methodLink RL 20 yX9_lyrics ∈ lw_tbl := List.mem_of_getElem? (i := 728) (by decide +kernel)
theorem lm_L_56 : Cond.methodLink RL 56 yX9_moveChord ∈ lw_tbl := List.mem_of_getElem? (i := 895) (by decide +kernel)
theorem lm_L_44 : Cond.methodLink RL 44 yX9_nameChar ∈ lw_tbl := List.mem_of_getElem? (i := 810) (by decide +kernel)
theorem lm_L_78 : Cond.methodLink RL 78 yX9_pairs ∈ lw_tbl := List.mem_of_getElem? (i := 983) (by decide +kernel)
theorem lm_L_38 : Cond.methodLink RL 38 yX9_qualityOf ∈ lw_tbl := List.mem_of_getElem? (i := 796) (by decide +kernel)
theorem lm_L_53 : Cond.methodLink RL 53 yX9_removeChord ∈ lw_tbl := List.mem_of_getElem? (i := 884) (by decide +kernel)
theorem lm_L_35 : Cond.methodLink RL 35 yX9_rootOf ∈ lw_tbl := List.mem_of_getElem? (i := 789) (by decide +kernel)
theorem lm_L_85 : Cond.methodLink RL 85 yX9_rowChar ∈ lw_tbl := List.mem_of_getElem? (i := 1052) (by decide +kernel)
theorem lm_L_81 : Cond.methodLink RL 81 yX9_rowLength ∈ lw_tbl := List.mem_of_getElem? (i := 1039) (by decide +kernel)
theorem lm_L_69 : Cond.methodLink RL 69 yX9_score ∈ lw_tbl := List.mem_of_getElem? (i := 953) (by decide +kernel)
theorem lm_L_47 : Cond.methodLink RL 47 yX9_setChord ∈ lw_tbl := List.mem_of_getElem? (i := 847) (by decide +kernel)
theorem lm_L_65 : Cond.methodLink RL 65 yX9_setKey ∈ lw_tbl := List.mem_of_getElem? (i := 941) (by decide +kernel)
theorem lm_L_17 : Cond.methodLink RL 17 yX9_setWidth ∈ lw_tbl := List.mem_of_getElem? (i := 719) (by decide +kernel)
theorem lm_L_72 : Cond.methodLink RL 72 yX9_transpose ∈ lw_tbl := List.mem_of_getElem? (i := 961) (by decide +kernel)
theorem lm_L_7 : Cond.methodLink RL 7 yX9_type ∈ lw_tbl := List.mem_of_getElem? (i := 625) (by decide +kernel)
theorem lm_L_89 : Cond.methodLink RL 89 yX9_undo ∈ lw_tbl := List.mem_of_getElem? (i := 1059) (by decide +kernel)
theorem lm_X0_9 : Cond.methodLink RX0 9 yX8_chordCount ∈ lw_tbl := List.mem_of_getElem? (i := 592) (by decide +kernel)
theorem lm_X0_15 : Cond.methodLink RX0 15 yX8_get ∈ lw_tbl := List.mem_of_getElem? (i := 593) (by decide +kernel)
theorem lm_X0_19 : Cond.methodLink RX0 19 yX4_raised ∈ lw_tbl := List.mem_of_getElem? (i := 594) (by decide +kernel)
theorem lm_X0_24 : Cond.methodLink RX0 24 yX5_at ∈ lw_tbl := List.mem_of_getElem? (i := 595) (by decide +kernel)
theorem lm_X0_30 : Cond.methodLink RX0 30 yX5_isEasyOn ∈ lw_tbl := List.mem_of_getElem? (i := 596) (by decide +kernel)
theorem lm_X0_34 : Cond.methodLink RX0 34 yX0_shapeDifficulty ∈ lw_tbl := List.mem_of_getElem? (i := 600) (by decide +kernel)
theorem lm_X0_40 : Cond.methodLink RX0 40 yX0_difficultyAt ∈ lw_tbl := List.mem_of_getElem? (i := 589) (by decide +kernel)
theorem lm_X0_44 : Cond.methodLink RX0 44 yX4_pitchClass ∈ lw_tbl := List.mem_of_getElem? (i := 603) (by decide +kernel)
theorem lk_X10_49 : Cond.fieldLink RX10 49 "ChordSheetModel" "states" "I" ∈ lw_tbl := List.mem_of_getElem? (i := 1080) (by decide +kernel)
theorem lk_X10_13 : Cond.fieldLink RX10 13 "ChordSheetModel" "past" "[I" ∈ lw_tbl := List.mem_of_getElem? (i := 1079) (by decide +kernel)
theorem lk_X10_7 : Cond.fieldLink RX10 7 "ChordSheetModel" "v" "[I" ∈ lw_tbl := List.mem_of_getElem? (i := 1078) (by decide +kernel)
theorem lk_X10_46 : Cond.fieldLink RX10 46 "ChordSheetModel" "thrown" "I" ∈ lw_tbl := List.mem_of_getElem? (i := 1086) (by decide +kernel)
theorem lm_X10_117 : Cond.methodLink RX10 117 yX10_isLine ∈ lw_tbl := List.mem_of_getElem? (i := 1245) (by decide +kernel)
theorem lm_X10_120 : Cond.methodLink RX10 120 yX10_lengthOf ∈ lw_tbl := List.mem_of_getElem? (i := 1249) (by decide +kernel)
theorem lm_X10_97 : Cond.methodLink RX10 97 yX10_in ∈ lw_tbl := List.mem_of_getElem? (i := 1159) (by decide +kernel)
theorem lm_X10_101 : Cond.methodLink RX10 101 yX10_fails ∈ lw_tbl := List.mem_of_getElem? (i := 1162) (by decide +kernel)
theorem lm_X10_146 : Cond.methodLink RX10 146 yX10_isText ∈ lw_tbl := List.mem_of_getElem? (i := 1313) (by decide +kernel)
theorem lk_X10_59 : Cond.fieldLink RX10 59 "ChordSheetModel" "at" "I" ∈ lw_tbl := List.mem_of_getElem? (i := 1089) (by decide +kernel)
theorem lm_X10_107 : Cond.methodLink RX10 107 yX10_acts ∈ lw_tbl := List.mem_of_getElem? (i := 1201) (by decide +kernel)
theorem lm_X10_152 : Cond.methodLink RX10 152 yX10_comesTo ∈ lw_tbl := List.mem_of_getElem? (i := 1325) (by decide +kernel)
theorem lm_X10_155 : Cond.methodLink RX10 155 yX10_opens ∈ lw_tbl := List.mem_of_getElem? (i := 1329) (by decide +kernel)
theorem lm_X10_94 : Cond.methodLink RX10 94 yX10_chord ∈ lw_tbl := List.mem_of_getElem? (i := 1198) (by decide +kernel)
theorem lm_X10_149 : Cond.methodLink RX10 149 yX10_puts ∈ lw_tbl := List.mem_of_getElem? (i := 1317) (by decide +kernel)
theorem lm_X10_130 : Cond.methodLink RX10 130 yX10_told ∈ lw_tbl := List.mem_of_getElem? (i := 1269) (by decide +kernel)
theorem lm_X10_197 : Cond.methodLink RX10 197 yX10_difficultyOf ∈ lw_tbl := List.mem_of_getElem? (i := 1411) (by decide +kernel)
theorem lk_X10_56 : Cond.fieldLink RX10 56 "ChordSheetModel" "typed" "I" ∈ lw_tbl := List.mem_of_getElem? (i := 1082) (by decide +kernel)
theorem lm_X10_127 : Cond.methodLink RX10 127 yX10_isChord ∈ lw_tbl := List.mem_of_getElem? (i := 1273) (by decide +kernel)
theorem lm_X10_167 : Cond.methodLink RX10 167 yX10_hasTone ∈ lw_tbl := List.mem_of_getElem? (i := 1349) (by decide +kernel)
theorem lm_X10_161 : Cond.methodLink RX10 161 yX10_pitch ∈ lw_tbl := List.mem_of_getElem? (i := 1213) (by decide +kernel)
theorem lm_X10_52 : Cond.methodLink RX10 52 yX10_mod12 ∈ lw_tbl := List.mem_of_getElem? (i := 1216) (by decide +kernel)
theorem lm_X10_171 : Cond.methodLink RX10 171 yX10_signatureNow ∈ lw_tbl := List.mem_of_getElem? (i := 1360) (by decide +kernel)
theorem lm_X10_174 : Cond.methodLink RX10 174 yX10_isInScale ∈ lw_tbl := List.mem_of_getElem? (i := 1219) (by decide +kernel)
theorem lm_X10_194 : Cond.methodLink RX10 194 yX10_isEasy ∈ lw_tbl := List.mem_of_getElem? (i := 1415) (by decide +kernel)
theorem lm_X10_210 : Cond.methodLink RX10 210 yX10_isBreak ∈ lw_tbl := List.mem_of_getElem? (i := 1434) (by decide +kernel)
theorem lm_X10_213 : Cond.methodLink RX10 213 yX10_lays ∈ lw_tbl := List.mem_of_getElem? (i := 1438) (by decide +kernel)
theorem lk_X10_200 : Cond.fieldLink RX10 200 "ChordSheetModel" "uppers" "I" ∈ lw_tbl := List.mem_of_getElem? (i := 1100) (by decide +kernel)
theorem lk_X10_23 : Cond.fieldLink RX10 23 "ChordSheetModel" "width" "I" ∈ lw_tbl := List.mem_of_getElem? (i := 1085) (by decide +kernel)
theorem lk_X10_203 : Cond.fieldLink RX10 203 "ChordSheetModel" "lowers" "I" ∈ lw_tbl := List.mem_of_getElem? (i := 1101) (by decide +kernel)
theorem lm_X10_110 : Cond.methodLink RX10 110 yX10_found ∈ lw_tbl := List.mem_of_getElem? (i := 1205) (by decide +kernel)
theorem lm_X10_123 : Cond.methodLink RX10 123 yX10_lyricAt ∈ lw_tbl := List.mem_of_getElem? (i := 1257) (by decide +kernel)
theorem lm_X10_184 : Cond.methodLink RX10 184 yX10_scoreOf ∈ lw_tbl := List.mem_of_getElem? (i := 1209) (by decide +kernel)
theorem lm_X10_164 : Cond.methodLink RX10 164 yX10_tonesOf ∈ lw_tbl := List.mem_of_getElem? (i := 1353) (by decide +kernel)
theorem lk_X10_16 : Cond.fieldLink RX10 16 "ChordSheetModel" "text" "[I" ∈ lw_tbl := List.mem_of_getElem? (i := 1081) (by decide +kernel)
theorem lk_X10_19 : Cond.fieldLink RX10 19 "ChordSheetModel" "isSimple" "Z" ∈ lw_tbl := List.mem_of_getElem? (i := 1083) (by decide +kernel)
theorem lk_X10_27 : Cond.fieldLink RX10 27 "ChordSheetModel" "letters" "[C" ∈ lw_tbl := List.mem_of_getElem? (i := 1087) (by decide +kernel)
theorem lk_X10_31 : Cond.fieldLink RX10 31 "ChordSheetModel" "qualities" "[C" ∈ lw_tbl := List.mem_of_getElem? (i := 1088) (by decide +kernel)
theorem lk_X10_34 : Cond.fieldLink RX10 34 "ChordSheetModel" "made" "[I" ∈ lw_tbl := List.mem_of_getElem? (i := 1095) (by decide +kernel)
theorem lk_X10_37 : Cond.fieldLink RX10 37 "ChordSheetModel" "name" "[I" ∈ lw_tbl := List.mem_of_getElem? (i := 1096) (by decide +kernel)
theorem lk_X10_40 : Cond.fieldLink RX10 40 "ChordSheetModel" "upper" "[I" ∈ lw_tbl := List.mem_of_getElem? (i := 1098) (by decide +kernel)
theorem lk_X10_43 : Cond.fieldLink RX10 43 "ChordSheetModel" "lower" "[I" ∈ lw_tbl := List.mem_of_getElem? (i := 1099) (by decide +kernel)
theorem lm_X10_220 : Cond.methodLink RX10 220 yX10_pairsOf ∈ lw_tbl := List.mem_of_getElem? (i := 1426) (by decide +kernel)
theorem lm_X10_90 : Cond.methodLink RX10 90 yX10_readsChord ∈ lw_tbl := List.mem_of_getElem? (i := 1182) (by decide +kernel)
theorem lm_X10_206 : Cond.methodLink RX10 206 yX10_laysChords ∈ lw_tbl := List.mem_of_getElem? (i := 1442) (by decide +kernel)
theorem lm_X10_143 : Cond.methodLink RX10 143 yX10_names ∈ lw_tbl := List.mem_of_getElem? (i := 1297) (by decide +kernel)
theorem lk_X10_133 : Cond.fieldLink RX10 133 "ChordSheetModel" "named" "I" ∈ lw_tbl := List.mem_of_getElem? (i := 1097) (by decide +kernel)
theorem lm_X10_217 : Cond.methodLink RX10 217 yX10_endOf ∈ lw_tbl := List.mem_of_getElem? (i := 1430) (by decide +kernel)
theorem lm_X10_62 : Cond.methodLink RX10 62 yX10_sign ∈ lw_tbl := List.mem_of_getElem? (i := 1178) (by decide +kernel)
theorem lk_X10_71 : Cond.fieldLink RX10 71 "ChordSheetModel" "isWhole" "Z" ∈ lw_tbl := List.mem_of_getElem? (i := 1094) (by decide +kernel)
theorem lm_X10_158 : Cond.methodLink RX10 158 yX10_closes ∈ lw_tbl := List.mem_of_getElem? (i := 1337) (by decide +kernel)
theorem lm_X10_140 : Cond.methodLink RX10 140 yX10_tellsNote ∈ lw_tbl := List.mem_of_getElem? (i := 1301) (by decide +kernel)
theorem lm_X10_136 : Cond.methodLink RX10 136 yX10_tells ∈ lw_tbl := List.mem_of_getElem? (i := 1305) (by decide +kernel)
theorem lk_X10_78 : Cond.fieldLink RX10 78 "ChordSheetModel" "readRoot" "I" ∈ lw_tbl := List.mem_of_getElem? (i := 1091) (by decide +kernel)
theorem lk_X10_87 : Cond.fieldLink RX10 87 "ChordSheetModel" "readQuality" "I" ∈ lw_tbl := List.mem_of_getElem? (i := 1092) (by decide +kernel)
theorem lk_X10_81 : Cond.fieldLink RX10 81 "ChordSheetModel" "readBass" "I" ∈ lw_tbl := List.mem_of_getElem? (i := 1093) (by decide +kernel)
theorem lm_X10_104 : Cond.methodLink RX10 104 yX10_readsSheet ∈ lw_tbl := List.mem_of_getElem? (i := 1174) (by decide +kernel)
theorem lm_X10_74 : Cond.methodLink RX10 74 yX10_readsNote ∈ lw_tbl := List.mem_of_getElem? (i := 1186) (by decide +kernel)
theorem lk_X10_68 : Cond.fieldLink RX10 68 "ChordSheetModel" "note" "I" ∈ lw_tbl := List.mem_of_getElem? (i := 1090) (by decide +kernel)
theorem lm_X10_84 : Cond.methodLink RX10 84 yX10_likeQuality ∈ lw_tbl := List.mem_of_getElem? (i := 1194) (by decide +kernel)
theorem lm_X10_65 : Cond.methodLink RX10 65 yX10_placeOf ∈ lw_tbl := List.mem_of_getElem? (i := 1190) (by decide +kernel)
theorem lm_X10_191 : Cond.methodLink RX10 191 yX10_spells ∈ lw_tbl := List.mem_of_getElem? (i := 1395) (by decide +kernel)
theorem lm_X10_223 : Cond.methodLink RX10 223 yX10_isRow ∈ lw_tbl := List.mem_of_getElem? (i := 1450) (by decide +kernel)
theorem lm_X10_226 : Cond.methodLink RX10 226 yX10_laysPair ∈ lw_tbl := List.mem_of_getElem? (i := 1454) (by decide +kernel)
theorem lm_X10_177 : Cond.methodLink RX10 177 yX10_isKey ∈ lw_tbl := List.mem_of_getElem? (i := 1380) (by decide +kernel)
theorem lm_X10_181 : Cond.methodLink RX10 181 yX10_isMinorChord ∈ lw_tbl := List.mem_of_getElem? (i := 1222) (by decide +kernel)
theorem lk_X10_114 : Cond.fieldLink RX10 114 "ChordSheetModel" "isFlat" "Z" ∈ lw_tbl := List.mem_of_getElem? (i := 1084) (by decide +kernel)
theorem lm_X10_188 : Cond.methodLink RX10 188 yX10_spelled ∈ lw_tbl := List.mem_of_getElem? (i := 1399) (by decide +kernel)
theorem lk_X1_11 : Cond.fieldLink RX1 11 "ChordSheet$History" "states" "[LChordSheet$Sheet;" ∈ lw_tbl := List.mem_of_getElem? (i := 147) (by decide +kernel)
theorem lm_X1_17 : Cond.methodLinkNest RX1 17 yX8_init "ChordSheet" ∈ lw_tbl := List.mem_of_getElem? (i := 146) (by decide +kernel)
theorem lk_X1_18 : Cond.fieldLink RX1 18 "ChordSheet$History" "count" "I" ∈ lw_tbl := List.mem_of_getElem? (i := 149) (by decide +kernel)
theorem lm_X1_22 : Cond.methodLink RX1 22 yX1_stateAt ∈ lw_tbl := List.mem_of_getElem? (i := 477) (by decide +kernel)
theorem lm_X1_26 : Cond.methodLink RX1 26 yX8_copyFrom ∈ lw_tbl := List.mem_of_getElem? (i := 484) (by decide +kernel)
theorem lk_X1_30 : Cond.fieldLink RX1 30 "ChordSheet$History" "oldest" "I" ∈ lw_tbl := List.mem_of_getElem? (i := 148) (by decide +kernel)
theorem lm_X1_33 : Cond.methodLink RX1 33 yJ9_floorMod_7cf53 ∈ lw_tbl := List.mem_of_getElem? (i := 481) (by decide +kernel)
theorem lm_X2_59 : Cond.methodLink RX2 59 yX2_bestSignature ∈ lw_tbl := List.mem_of_getElem? (i := 492) (by decide +kernel)
theorem lm_X2_63 : Cond.methodLink RX2 63 yX2_scoreOf ∈ lw_tbl := List.mem_of_getElem? (i := 495) (by decide +kernel)
theorem lm_X2_11 : Cond.methodLink RX2 11 yX2_tonicOf ∈ lw_tbl := List.mem_of_getElem? (i := 498) (by decide +kernel)
theorem lm_X2_24 : Cond.methodLink RX2 24 yX2_isInScale ∈ lw_tbl := List.mem_of_getElem? (i := 507) (by decide +kernel)
theorem lm_X2_28 : Cond.methodLink RX2 28 yX4_pitchClass ∈ lw_tbl := List.mem_of_getElem? (i := 501) (by decide +kernel)
theorem lm_X2_32 : Cond.methodLink RX2 32 yJ9_floorMod_7cf53 ∈ lw_tbl := List.mem_of_getElem? (i := 936) (by decide +kernel)
theorem lm_X2_37 : Cond.methodLink RX2 37 yX4_raised ∈ lw_tbl := List.mem_of_getElem? (i := 937) (by decide +kernel)
theorem lm_X2_15 : Cond.methodLink RX2 15 yX4_placeFrom ∈ lw_tbl := List.mem_of_getElem? (i := 510) (by decide +kernel)
theorem lm_X2_40 : Cond.methodLink RX2 40 yX8_chordCount ∈ lw_tbl := List.mem_of_getElem? (i := 505) (by decide +kernel)
theorem lm_X2_46 : Cond.methodLink RX2 46 yX8_get ∈ lw_tbl := List.mem_of_getElem? (i := 506) (by decide +kernel)
theorem lm_X2_49 : Cond.methodLink RX2 49 yX5_at ∈ lw_tbl := List.mem_of_getElem? (i := 513) (by decide +kernel)
theorem lk_X2_55 : Cond.fieldLinkNest RX2 55 "ChordSheet$Quality" "minor" "Z" "ChordSheet" ∈ lw_tbl := List.mem_of_getElem? (i := 1477) (by decide +kernel)
theorem lm_X2_21 : Cond.methodLink RX2 21 yX2_signatureOf ∈ lw_tbl := List.mem_of_getElem? (i := 970) (by decide +kernel)
theorem lm_X3_25 : Cond.methodLink RX3 25 yX3_start ∈ lw_tbl := List.mem_of_getElem? (i := 991) (by decide +kernel)
theorem lm_X3_29 : Cond.methodLink RX3 29 yX3_layNext ∈ lw_tbl := List.mem_of_getElem? (i := 996) (by decide +kernel)
theorem lk_X3_12 : Cond.fieldLink RX3 12 "ChordSheet$Layout" "chordRow" "LChordSheet$Row;" ∈ lw_tbl := List.mem_of_getElem? (i := 191) (by decide +kernel)
theorem lk_X3_101 : Cond.fieldLink RX3 101 "ChordSheet$Layout" "endChordSize" "I" ∈ lw_tbl := List.mem_of_getElem? (i := 199) (by decide +kernel)
theorem lm_X3_71 : Cond.methodLink RX3 71 yX7_cutTo ∈ lw_tbl := List.mem_of_getElem? (i := 1002) (by decide +kernel)
theorem lk_X3_18 : Cond.fieldLink RX3 18 "ChordSheet$Layout" "lyricRow" "LChordSheet$Row;" ∈ lw_tbl := List.mem_of_getElem? (i := 192) (by decide +kernel)
theorem lk_X3_104 : Cond.fieldLink RX3 104 "ChordSheet$Layout" "endLyricSize" "I" ∈ lw_tbl := List.mem_of_getElem? (i := 200) (by decide +kernel)
theorem lk_X3_21 : Cond.fieldLink RX3 21 "ChordSheet$Layout" "sheet" "LChordSheet$Sheet;" ∈ lw_tbl := List.mem_of_getElem? (i := 190) (by decide +kernel)
theorem lm_X3_33 : Cond.methodLink RX3 33 yX8_hasLine ∈ lw_tbl := List.mem_of_getElem? (i := 1047) (by decide +kernel)
theorem lm_X3_11 : Cond.methodLinkNest RX3 11 yX7_init "ChordSheet" ∈ lw_tbl := List.mem_of_getElem? (i := 189) (by decide +kernel)
theorem lk_X3_65 : Cond.fieldLink RX3 65 "ChordSheet$Layout" "begin" "I" ∈ lw_tbl := List.mem_of_getElem? (i := 195) (by decide +kernel)
theorem lm_X3_94 : Cond.methodLink RX3 94 yX3_isLetter ∈ lw_tbl := List.mem_of_getElem? (i := 1007) (by decide +kernel)
theorem lk_X3_39 : Cond.fieldLink RX3 39 "ChordSheet$Layout" "line" "I" ∈ lw_tbl := List.mem_of_getElem? (i := 193) (by decide +kernel)
theorem lm_X3_84 : Cond.methodLink RX3 84 yX8_letterAt ∈ lw_tbl := List.mem_of_getElem? (i := 1011) (by decide +kernel)
theorem lm_X3_56 : Cond.methodLink RX3 56 yX8_lengthOf ∈ lw_tbl := List.mem_of_getElem? (i := 1000) (by decide +kernel)
theorem lk_X3_46 : Cond.fieldLink RX3 46 "ChordSheet$Layout" "end" "I" ∈ lw_tbl := List.mem_of_getElem? (i := 197) (by decide +kernel)
theorem lm_X3_60 : Cond.methodLink RX3 60 yJ9_max_7cf53 ∈ lw_tbl := List.mem_of_getElem? (i := 1001) (by decide +kernel)
theorem lk_X3_53 : Cond.fieldLink RX3 53 "ChordSheet$Layout" "endChord" "I" ∈ lw_tbl := List.mem_of_getElem? (i := 198) (by decide +kernel)
theorem lk_X3_68 : Cond.fieldLink RX3 68 "ChordSheet$Layout" "chord" "I" ∈ lw_tbl := List.mem_of_getElem? (i := 196) (by decide +kernel)
theorem lm_X3_75 : Cond.methodLink RX3 75 yX3_isInnerBreak ∈ lw_tbl := List.mem_of_getElem? (i := 1003) (by decide +kernel)
theorem lm_X3_78 : Cond.methodLink RX3 78 yX3_offerEnd ∈ lw_tbl := List.mem_of_getElem? (i := 1012) (by decide +kernel)
theorem lm_X3_81 : Cond.methodLink RX3 81 yX3_placeChords ∈ lw_tbl := List.mem_of_getElem? (i := 1017) (by decide +kernel)
theorem lm_X3_87 : Cond.methodLink RX3 87 yX7_add ∈ lw_tbl := List.mem_of_getElem? (i := 1031) (by decide +kernel)
theorem lm_X3_91 : Cond.methodLink RX3 91 yX3_cutBack ∈ lw_tbl := List.mem_of_getElem? (i := 1032) (by decide +kernel)
theorem lm_X3_97 : Cond.methodLink RX3 97 yX7_size ∈ lw_tbl := List.mem_of_getElem? (i := 1016) (by decide +kernel)
theorem lk_X3_43 : Cond.fieldLink RX3 43 "ChordSheet$Layout" "width" "I" ∈ lw_tbl := List.mem_of_getElem? (i := 194) (by decide +kernel)
theorem lm_X3_107 : Cond.methodLink RX3 107 yX8_chordCount ∈ lw_tbl := List.mem_of_getElem? (i := 1021) (by decide +kernel)
theorem lm_X3_110 : Cond.methodLink RX3 110 yX8_isAt ∈ lw_tbl := List.mem_of_getElem? (i := 1022) (by decide +kernel)
theorem lm_X3_114 : Cond.methodLink RX3 114 yX7_fillTo ∈ lw_tbl := List.mem_of_getElem? (i := 1026) (by decide +kernel)
theorem lm_X3_118 : Cond.methodLink RX3 118 yX8_writeName ∈ lw_tbl := List.mem_of_getElem? (i := 1030) (by decide +kernel)
theorem lm_X3_49 : Cond.methodLink RX3 49 yX8_countUpTo ∈ lw_tbl := List.mem_of_getElem? (i := 995) (by decide +kernel)
theorem lm_X4_19 : Cond.methodLink RX4 19 yJ0_indexOf_0f7a4 ∈ lw_tbl := List.mem_of_getElem? (i := 300) (by decide +kernel)
theorem lm_X4_9 : Cond.methodLink RX4 9 yJ9_floorMod_7cf53 ∈ lw_tbl := List.mem_of_getElem? (i := 504) (by decide +kernel)
theorem lm_X4_25 : Cond.methodLink RX4 25 yX4_placeFrom ∈ lw_tbl := List.mem_of_getElem? (i := 578) (by decide +kernel)
theorem lm_X4_28 : Cond.methodLink RX4 28 yX4_hasTwoAccidentals ∈ lw_tbl := List.mem_of_getElem? (i := 579) (by decide +kernel)
theorem lm_X4_32 : Cond.methodLink RX4 32 yJ0_charAt_5068e ∈ lw_tbl := List.mem_of_getElem? (i := 826) (by decide +kernel)
theorem lm_X4_36 : Cond.methodLink RX4 36 yX7_add ∈ lw_tbl := List.mem_of_getElem? (i := 827) (by decide +kernel)
theorem lm_X4_42 : Cond.methodLink RX4 42 yJ9_floorDiv_7cf53 ∈ lw_tbl := List.mem_of_getElem? (i := 828) (by decide +kernel)
theorem lm_X4_45 : Cond.methodLink RX4 45 yJ9_abs_0f7a4 ∈ lw_tbl := List.mem_of_getElem? (i := 831) (by decide +kernel)
theorem lk_X5_68 : Cond.fieldLink RX5 68 "ChordSheet$Quality" "ALL" "[LChordSheet$Quality;" ∈ lw_tbl := List.mem_of_getElem? (i := 393) (by decide +kernel)
theorem lk_X5_3 : Cond.fieldLink RX5 3 "ChordSheet$Quality" "MAJOR" "LChordSheet$Quality;" ∈ lw_tbl := List.mem_of_getElem? (i := 398) (by decide +kernel)
theorem lk_X5_61 : Cond.fieldLink RX5 61 "ChordSheet$Quality" "easyRoots" "I" ∈ lw_tbl := List.mem_of_getElem? (i := 1480) (by decide +kernel)
theorem lk_X5_57 : Cond.fieldLink RX5 57 "ChordSheet$Quality" "tones" "I" ∈ lw_tbl := List.mem_of_getElem? (i := 1479) (by decide +kernel)
theorem lm_X5_71 : Cond.methodLink RX5 71 yX4_raisedSet ∈ lw_tbl := List.mem_of_getElem? (i := 916) (by decide +kernel)
theorem lk_X6_22 : Cond.fieldLink RX6 22 "ChordSheet$Reader" "bass" "I" ∈ lw_tbl := List.mem_of_getElem? (i := 167) (by decide +kernel)
theorem lk_X6_9 : Cond.fieldLink RX6 9 "ChordSheet$Reader" "text" "LChordSheet$Row;" ∈ lw_tbl := List.mem_of_getElem? (i := 163) (by decide +kernel)
theorem lk_X6_19 : Cond.fieldLink RX6 19 "ChordSheet$Reader" "quality" "I" ∈ lw_tbl := List.mem_of_getElem? (i := 166) (by decide +kernel)
theorem lk_X6_51 : Cond.fieldLink RX6 51 "ChordSheet$Reader" "stop" "I" ∈ lw_tbl := List.mem_of_getElem? (i := 164) (by decide +kernel)
theorem lm_X6_71 : Cond.methodLink RX6 71 yX6_readNote ∈ lw_tbl := List.mem_of_getElem? (i := 292) (by decide +kernel)
theorem lk_X6_15 : Cond.fieldLink RX6 15 "ChordSheet$Reader" "root" "I" ∈ lw_tbl := List.mem_of_getElem? (i := 165) (by decide +kernel)
theorem lm_X6_74 : Cond.methodLink RX6 74 yX6_readQuality ∈ lw_tbl := List.mem_of_getElem? (i := 386) (by decide +kernel)
theorem lk_X6_47 : Cond.fieldLink RX6 47 "ChordSheet$Reader" "whole" "Z" ∈ lw_tbl := List.mem_of_getElem? (i := 168) (by decide +kernel)
theorem lm_X6_36 : Cond.methodLink RX6 36 yX7_at ∈ lw_tbl := List.mem_of_getElem? (i := 280) (by decide +kernel)
theorem lm_X6_78 : Cond.methodLink RX6 78 yX4_natural ∈ lw_tbl := List.mem_of_getElem? (i := 296) (by decide +kernel)
theorem lm_X6_83 : Cond.methodLink RX6 83 yX5_count ∈ lw_tbl := List.mem_of_getElem? (i := 390) (by decide +kernel)
theorem lm_X6_88 : Cond.methodLink RX6 88 yX5_at ∈ lw_tbl := List.mem_of_getElem? (i := 395) (by decide +kernel)
theorem lk_X6_91 : Cond.fieldLinkNest RX6 91 "ChordSheet$Quality" "suffix" "Ljava/lang/String;" "ChordSheet" ∈ lw_tbl := List.mem_of_getElem? (i := 1476) (by decide +kernel)
theorem lm_X6_95 : Cond.methodLink RX6 95 yX6_sharedLength ∈ lw_tbl := List.mem_of_getElem? (i := 400) (by decide +kernel)
theorem lm_X6_99 : Cond.methodLink RX6 99 yJ0_length_8abf5 ∈ lw_tbl := List.mem_of_getElem? (i := 404) (by decide +kernel)
theorem lm_X6_25 : Cond.methodLink RX6 25 yX8_clear ∈ lw_tbl := List.mem_of_getElem? (i := 275) (by decide +kernel)
theorem lm_X6_30 : Cond.methodLink RX6 30 yX7_size ∈ lw_tbl := List.mem_of_getElem? (i := 279) (by decide +kernel)
theorem lm_X6_40 : Cond.methodLink RX6 40 yX8_chordCount ∈ lw_tbl := List.mem_of_getElem? (i := 284) (by decide +kernel)
theorem lm_X6_43 : Cond.methodLink RX6 43 yX6_readChord ∈ lw_tbl := List.mem_of_getElem? (i := 288) (by decide +kernel)
theorem lm_X6_54 : Cond.methodLink RX6 54 yX8_append ∈ lw_tbl := List.mem_of_getElem? (i := 425) (by decide +kernel)
theorem lm_X6_58 : Cond.methodLink RX6 58 yJ9_max_7cf53 ∈ lw_tbl := List.mem_of_getElem? (i := 464) (by decide +kernel)
theorem lm_X6_64 : Cond.methodLink RX6 64 yX8_beginLine ∈ lw_tbl := List.mem_of_getElem? (i := 465) (by decide +kernel)
theorem lm_X6_67 : Cond.methodLink RX6 67 yX8_addLetter ∈ lw_tbl := List.mem_of_getElem? (i := 469) (by decide +kernel)
theorem lm_X6_104 : Cond.methodLink RX6 104 yJ0_charAt_5068e ∈ lw_tbl := List.mem_of_getElem? (i := 405) (by decide +kernel)
theorem lk_X7_15 : Cond.fieldLink RX7 15 "ChordSheet$Row" "size" "I" ∈ lw_tbl := List.mem_of_getElem? (i := 100) (by decide +kernel)
theorem lk_X7_11 : Cond.fieldLink RX7 11 "ChordSheet$Row" "signs" "[C" ∈ lw_tbl := List.mem_of_getElem? (i := 99) (by decide +kernel)
theorem lm_X7_19 : Cond.methodLink RX7 19 yJ0_length_8abf5 ∈ lw_tbl := List.mem_of_getElem? (i := 839) (by decide +kernel)
theorem lm_X7_25 : Cond.methodLink RX7 25 yJ0_charAt_5068e ∈ lw_tbl := List.mem_of_getElem? (i := 840) (by decide +kernel)
theorem lm_X7_29 : Cond.methodLink RX7 29 yX7_add ∈ lw_tbl := List.mem_of_getElem? (i := 841) (by decide +kernel)
theorem lk_X8_19 : Cond.fieldLink RX8 19 "ChordSheet$Sheet" "lineCount" "I" ∈ lw_tbl := List.mem_of_getElem? (i := 115) (by decide +kernel)
theorem lm_X8_42 : Cond.methodLink RX8 42 yX8_startOf ∈ lw_tbl := List.mem_of_getElem? (i := 433) (by decide +kernel)
theorem lk_X8_9 : Cond.fieldLink RX8 9 "ChordSheet$Sheet" "letters" "[C" ∈ lw_tbl := List.mem_of_getElem? (i := 113) (by decide +kernel)
theorem lk_X8_15 : Cond.fieldLink RX8 15 "ChordSheet$Sheet" "starts" "[I" ∈ lw_tbl := List.mem_of_getElem? (i := 114) (by decide +kernel)
theorem lm_X8_50 : Cond.methodLink RX8 50 yX8_lengthOf ∈ lw_tbl := List.mem_of_getElem? (i := 429) (by decide +kernel)
theorem lm_X8_110 : Cond.methodLink RX8 110 yX8_letterAt ∈ lw_tbl := List.mem_of_getElem? (i := 614) (by decide +kernel)
theorem lk_X8_32 : Cond.fieldLink RX8 32 "ChordSheet$Sheet" "chordCount" "I" ∈ lw_tbl := List.mem_of_getElem? (i := 117) (by decide +kernel)
theorem lm_X8_69 : Cond.methodLink RX8 69 yX8_get ∈ lw_tbl := List.mem_of_getElem? (i := 449) (by decide +kernel)
theorem lm_X8_53 : Cond.methodLink RX8 53 yX8_insert ∈ lw_tbl := List.mem_of_getElem? (i := 437) (by decide +kernel)
theorem lk_X8_23 : Cond.fieldLink RX8 23 "ChordSheet$Sheet" "chordFields" "[I" ∈ lw_tbl := List.mem_of_getElem? (i := 116) (by decide +kernel)
theorem lk_X8_35 : Cond.fieldLink RX8 35 "ChordSheet$Sheet" "signature" "I" ∈ lw_tbl := List.mem_of_getElem? (i := 118) (by decide +kernel)
theorem lk_X8_38 : Cond.fieldLink RX8 38 "ChordSheet$Sheet" "minor" "Z" ∈ lw_tbl := List.mem_of_getElem? (i := 120) (by decide +kernel)
theorem lm_X8_65 : Cond.methodLink RX8 65 yX8_isUpTo ∈ lw_tbl := List.mem_of_getElem? (i := 445) (by decide +kernel)
theorem lm_X8_57 : Cond.methodLink RX8 57 yX8_countUpTo ∈ lw_tbl := List.mem_of_getElem? (i := 441) (by decide +kernel)
theorem lm_X8_46 : Cond.methodLink RX8 46 yX8_set ∈ lw_tbl := List.mem_of_getElem? (i := 456) (by decide +kernel)
theorem lm_X8_61 : Cond.methodLink RX8 61 yX8_put ∈ lw_tbl := List.mem_of_getElem? (i := 460) (by decide +kernel)
theorem lm_X8_104 : Cond.methodLink RX8 104 yX8_spellField ∈ lw_tbl := List.mem_of_getElem? (i := 568) (by decide +kernel)
theorem lm_X8_113 : Cond.methodLink RX8 113 yX4_raised ∈ lw_tbl := List.mem_of_getElem? (i := 572) (by decide +kernel)
theorem lm_X8_116 : Cond.methodLink RX8 116 yX4_spelled ∈ lw_tbl := List.mem_of_getElem? (i := 575) (by decide +kernel)
theorem lm_X8_72 : Cond.methodLink RX8 72 yX4_pitchClass ∈ lw_tbl := List.mem_of_getElem? (i := 911) (by decide +kernel)
theorem lm_X8_77 : Cond.methodLink RX8 77 yX5_at ∈ lw_tbl := List.mem_of_getElem? (i := 834) (by decide +kernel)
theorem lm_X8_83 : Cond.methodLink RX8 83 yX5_tonesOn ∈ lw_tbl := List.mem_of_getElem? (i := 912) (by decide +kernel)
theorem lm_X8_86 : Cond.methodLink RX8 86 yX4_write ∈ lw_tbl := List.mem_of_getElem? (i := 823) (by decide +kernel)
theorem lk_X8_90 : Cond.fieldLinkNest RX8 90 "ChordSheet$Quality" "suffix" "Ljava/lang/String;" "ChordSheet" ∈ lw_tbl := List.mem_of_getElem? (i := 1478) (by decide +kernel)
theorem lm_X8_94 : Cond.methodLink RX8 94 yX7_addAll ∈ lw_tbl := List.mem_of_getElem? (i := 835) (by decide +kernel)
theorem lm_X8_100 : Cond.methodLink RX8 100 yX7_add ∈ lw_tbl := List.mem_of_getElem? (i := 842) (by decide +kernel)
theorem lm_X9_115 : Cond.methodLink RX9 115 yX9_requireLine ∈ lw_tbl := List.mem_of_getElem? (i := 732) (by decide +kernel)
theorem lm_X9_163 : Cond.methodLink RX9 163 yX9_requireChordColumn ∈ lw_tbl := List.mem_of_getElem? (i := 875) (by decide +kernel)
theorem lk_X9_22 : Cond.fieldLink RX9 22 "ChordSheet" "sheet" "LChordSheet$Sheet;" ∈ lw_tbl := List.mem_of_getElem? (i := 226) (by decide +kernel)
theorem lm_X9_107 : Cond.methodLink RX9 107 yX8_chordCount ∈ lw_tbl := List.mem_of_getElem? (i := 521) (by decide +kernel)
theorem lk_X9_41 : Cond.fieldLink RX9 41 "ChordSheet" "reader" "LChordSheet$Reader;" ∈ lw_tbl := List.mem_of_getElem? (i := 229) (by decide +kernel)
theorem lm_X9_147 : Cond.methodLink RX9 147 yX6_readSingleChord ∈ lw_tbl := List.mem_of_getElem? (i := 851) (by decide +kernel)
theorem lk_X9_32 : Cond.fieldLink RX9 32 "ChordSheet" "history" "LChordSheet$History;" ∈ lw_tbl := List.mem_of_getElem? (i := 228) (by decide +kernel)
theorem lm_X9_93 : Cond.methodLink RX9 93 yX1_keep ∈ lw_tbl := List.mem_of_getElem? (i := 473) (by decide +kernel)
theorem lk_X9_10 : Cond.fieldLink RX9 10 "ChordSheet" "text" "LChordSheet$Row;" ∈ lw_tbl := List.mem_of_getElem? (i := 224) (by decide +kernel)
theorem lm_X9_85 : Cond.methodLink RX9 85 yX7_cutTo ∈ lw_tbl := List.mem_of_getElem? (i := 263) (by decide +kernel)
theorem lm_X9_150 : Cond.methodLink RX9 150 yX6_root ∈ lw_tbl := List.mem_of_getElem? (i := 855) (by decide +kernel)
theorem lm_X9_153 : Cond.methodLink RX9 153 yX6_quality ∈ lw_tbl := List.mem_of_getElem? (i := 859) (by decide +kernel)
theorem lm_X9_156 : Cond.methodLink RX9 156 yX6_bass ∈ lw_tbl := List.mem_of_getElem? (i := 863) (by decide +kernel)
theorem lm_X9_169 : Cond.methodLink RX9 169 yX8_insert ∈ lw_tbl := List.mem_of_getElem? (i := 880) (by decide +kernel)
theorem lm_X9_131 : Cond.methodLink RX9 131 yX9_requireChord ∈ lw_tbl := List.mem_of_getElem? (i := 773) (by decide +kernel)
theorem lm_X9_134 : Cond.methodLink RX9 134 yX8_get ∈ lw_tbl := List.mem_of_getElem? (i := 778) (by decide +kernel)
theorem lm_X9_239 : Cond.methodLink RX9 239 yX0_easiestFret ∈ lw_tbl := List.mem_of_getElem? (i := 586) (by decide +kernel)
theorem lm_X9_72 : Cond.methodLink RX9 72 yX7_size ∈ lw_tbl := List.mem_of_getElem? (i := 259) (by decide +kernel)
theorem lm_X9_178 : Cond.methodLink RX9 178 yX8_tonesOf ∈ lw_tbl := List.mem_of_getElem? (i := 907) (by decide +kernel)
theorem lm_X9_181 : Cond.methodLink RX9 181 yJ6_bitCount_0f7a4 ∈ lw_tbl := List.mem_of_getElem? (i := 919) (by decide +kernel)
theorem lm_X9_186 : Cond.methodLink RX9 186 yX4_pitchClass ∈ lw_tbl := List.mem_of_getElem? (i := 932) (by decide +kernel)
theorem lk_X9_191 : Cond.fieldLinkNest RX9 191 "ChordSheet$Sheet" "signature" "I" "ChordSheet" ∈ lw_tbl := List.mem_of_getElem? (i := 119) (by decide +kernel)
theorem lk_X9_194 : Cond.fieldLinkNest RX9 194 "ChordSheet$Sheet" "minor" "Z" "ChordSheet" ∈ lw_tbl := List.mem_of_getElem? (i := 121) (by decide +kernel)
theorem lm_X9_197 : Cond.methodLink RX9 197 yX2_degreeOf ∈ lw_tbl := List.mem_of_getElem? (i := 933) (by decide +kernel)
theorem lm_X9_233 : Cond.methodLink RX9 233 yX0_difficultyAt ∈ lw_tbl := List.mem_of_getElem? (i := 979) (by decide +kernel)
theorem lm_X9_99 : Cond.methodLink RX9 99 yX2_best ∈ lw_tbl := List.mem_of_getElem? (i := 489) (by decide +kernel)
theorem lm_X9_262 : Cond.methodLink RX9 262 yX8_addTo ∈ lw_tbl := List.mem_of_getElem? (i := 609) (by decide +kernel)
theorem lm_X9_218 : Cond.methodLink RX9 218 yX9_tonic ∈ lw_tbl := List.mem_of_getElem? (i := 619) (by decide +kernel)
theorem lm_X9_9 : Cond.methodLinkNest RX9 9 yX7_init "ChordSheet" ∈ lw_tbl := List.mem_of_getElem? (i := 95) (by decide +kernel)
theorem lk_X9_16 : Cond.fieldLink RX9 16 "ChordSheet" "name" "LChordSheet$Row;" ∈ lw_tbl := List.mem_of_getElem? (i := 225) (by decide +kernel)
theorem lm_X9_21 : Cond.methodLinkNest RX9 21 yX8_init "ChordSheet" ∈ lw_tbl := List.mem_of_getElem? (i := 109) (by decide +kernel)
theorem lk_X9_26 : Cond.fieldLink RX9 26 "ChordSheet" "draft" "LChordSheet$Sheet;" ∈ lw_tbl := List.mem_of_getElem? (i := 227) (by decide +kernel)
theorem lm_X9_31 : Cond.methodLink RX9 31 yX1_init ∈ lw_tbl := List.mem_of_getElem? (i := 140) (by decide +kernel)
theorem lm_X9_38 : Cond.methodLink RX9 38 yX6_init ∈ lw_tbl := List.mem_of_getElem? (i := 159) (by decide +kernel)
theorem lm_X9_47 : Cond.methodLink RX9 47 yX3_init ∈ lw_tbl := List.mem_of_getElem? (i := 184) (by decide +kernel)
theorem lk_X9_50 : Cond.fieldLink RX9 50 "ChordSheet" "layout" "LChordSheet$Layout;" ∈ lw_tbl := List.mem_of_getElem? (i := 230) (by decide +kernel)
theorem lk_X9_54 : Cond.fieldLink RX9 54 "ChordSheet" "simple" "Z" ∈ lw_tbl := List.mem_of_getElem? (i := 231) (by decide +kernel)
theorem lk_X9_58 : Cond.fieldLink RX9 58 "ChordSheet" "flats" "Z" ∈ lw_tbl := List.mem_of_getElem? (i := 232) (by decide +kernel)
theorem lk_X9_61 : Cond.fieldLink RX9 61 "ChordSheet" "width" "I" ∈ lw_tbl := List.mem_of_getElem? (i := 233) (by decide +kernel)
theorem lm_X9_112 : Cond.methodLink RX9 112 yX8_lineCount ∈ lw_tbl := List.mem_of_getElem? (i := 535) (by decide +kernel)
theorem lm_X9_118 : Cond.methodLink RX9 118 yX8_lengthOf ∈ lw_tbl := List.mem_of_getElem? (i := 756) (by decide +kernel)
theorem lm_X9_127 : Cond.methodLink RX9 127 yX8_letterAt ∈ lw_tbl := List.mem_of_getElem? (i := 765) (by decide +kernel)
theorem lm_X9_173 : Cond.methodLink RX9 173 yX8_takeOut ∈ lw_tbl := List.mem_of_getElem? (i := 888) (by decide +kernel)
theorem lm_X9_137 : Cond.methodLink RX9 137 yX9_requireIndex ∈ lw_tbl := List.mem_of_getElem? (i := 814) (by decide +kernel)
theorem lm_X9_140 : Cond.methodLink RX9 140 yX8_writeName ∈ lw_tbl := List.mem_of_getElem? (i := 819) (by decide +kernel)
theorem lm_X9_144 : Cond.methodLink RX9 144 yX7_at ∈ lw_tbl := List.mem_of_getElem? (i := 843) (by decide +kernel)
theorem lm_X9_242 : Cond.methodLink RX9 242 yX3_countPairs ∈ lw_tbl := List.mem_of_getElem? (i := 987) (by decide +kernel)
theorem lm_X9_89 : Cond.methodLink RX9 89 yX6_readSheet ∈ lw_tbl := List.mem_of_getElem? (i := 271) (by decide +kernel)
theorem lm_X9_96 : Cond.methodLink RX9 96 yX8_copyFrom ∈ lw_tbl := List.mem_of_getElem? (i := 488) (by decide +kernel)
theorem lm_X9_104 : Cond.methodLink RX9 104 yX9_takeKey ∈ lw_tbl := List.mem_of_getElem? (i := 514) (by decide +kernel)
theorem lm_X9_268 : Cond.methodLink RX9 268 yX8_hasLine ∈ lw_tbl := List.mem_of_getElem? (i := 736) (by decide +kernel)
theorem lm_X9_228 : Cond.methodLink RX9 228 yX8_spell ∈ lw_tbl := List.mem_of_getElem? (i := 564) (by decide +kernel)
theorem lm_X9_245 : Cond.methodLink RX9 245 yX3_find ∈ lw_tbl := List.mem_of_getElem? (i := 1043) (by decide +kernel)
theorem lm_X9_205 : Cond.methodLink RX9 205 yX9_requireTonic ∈ lw_tbl := List.mem_of_getElem? (i := 945) (by decide +kernel)
theorem lm_X9_209 : Cond.methodLink RX9 209 yX2_signatureOf ∈ lw_tbl := List.mem_of_getElem? (i := 518) (by decide +kernel)
theorem lm_X9_212 : Cond.methodLink RX9 212 yX2_scoreOf ∈ lw_tbl := List.mem_of_getElem? (i := 957) (by decide +kernel)
theorem lm_X9_159 : Cond.methodLink RX9 159 yX8_put ∈ lw_tbl := List.mem_of_getElem? (i := 867) (by decide +kernel)
theorem lm_X9_201 : Cond.methodLink RX9 201 yX2_tonicOf ∈ lw_tbl := List.mem_of_getElem? (i := 547) (by decide +kernel)
theorem lm_X9_221 : Cond.methodLink RX9 221 yX4_raised ∈ lw_tbl := List.mem_of_getElem? (i := 966) (by decide +kernel)
theorem lm_X9_224 : Cond.methodLink RX9 224 yX2_simplestSignature ∈ lw_tbl := List.mem_of_getElem? (i := 967) (by decide +kernel)
theorem lm_X9_81 : Cond.methodLink RX9 81 yX7_add ∈ lw_tbl := List.mem_of_getElem? (i := 712) (by decide +kernel)
theorem lm_X9_251 : Cond.methodLink RX9 251 yX1_isEmpty ∈ lw_tbl := List.mem_of_getElem? (i := 1063) (by decide +kernel)
theorem lm_X9_257 : Cond.methodLink RX9 257 yX1_restore ∈ lw_tbl := List.mem_of_getElem? (i := 1068) (by decide +kernel)
