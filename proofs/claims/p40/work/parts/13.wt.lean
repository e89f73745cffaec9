/-! TABLES, by program: classes, methods, links -/
theorem zc_in (ws : List Cond) (ps : List Nat) (hp : ws = ps.filterMap (fun i => lw_tbl[i]?)) (h : ws.all (fun w => goodWord w || zt_k w) = true) : ∀ w ∈ ws, w ∈ lw_tbl ∧ (goodWord w || zt_k w) = true := by
  intro w hw
  refine ⟨?_, List.all_eq_true.mp h w hw⟩
  rw [hp] at hw
  obtain ⟨i, -, hi⟩ := List.mem_filterMap.mp hw
  exact List.mem_of_getElem? hi
theorem zc_X1 : zCl 0 RX1 TX1 3 tyX1 := ⟨rfl, zc_in _ [114, 116, 118] (by decide +kernel) (by decide +kernel), tyX1_ok, nmX1, by decide +kernel, List.mem_of_getElem? (i := 103) (by decide +kernel), List.mem_of_getElem? (i := 27) (by decide +kernel)⟩
theorem zc_X3 : zCl 1 RX3 TX3 11 tyX3 := ⟨rfl, zc_in _ [165, 167, 169, 171, 173, 175, 177, 179, 181, 183, 185] (by decide +kernel) (by decide +kernel), tyX3_ok, nmX3, by decide +kernel, List.mem_of_getElem? (i := 147) (by decide +kernel), List.mem_of_getElem? (i := 29) (by decide +kernel)⟩
theorem zc_X6 : zCl 2 RX6 TX6 6 tyX6 := ⟨rfl, zc_in _ [133, 135, 137, 139, 141, 143] (by decide +kernel) (by decide +kernel), tyX6_ok, nmX6, by decide +kernel, List.mem_of_getElem? (i := 122) (by decide +kernel), List.mem_of_getElem? (i := 28) (by decide +kernel)⟩
theorem zc_X7 : zCl 3 RX7 TX7 2 tyX7 := ⟨rfl, zc_in _ [65, 67] (by decide +kernel) (by decide +kernel), tyX7_ok, nmX7, by decide +kernel, List.mem_of_getElem? (i := 58) (by decide +kernel), List.mem_of_getElem? (i := 25) (by decide +kernel)⟩
theorem zc_X8 : zCl 4 RX8 TX8 7 tyX8 := ⟨rfl, zc_in _ [86, 88, 90, 92, 94, 96, 98] (by decide +kernel) (by decide +kernel), tyX8_ok, nmX8, by decide +kernel, List.mem_of_getElem? (i := 72) (by decide +kernel), List.mem_of_getElem? (i := 26) (by decide +kernel)⟩
theorem zc_X9 : zCl 5 RX9 TX9 10 tyX9 := ⟨rfl, zc_in _ [198, 200, 202, 204, 206, 208, 210, 212, 214, 216] (by decide +kernel) (by decide +kernel), tyX9_ok, nmX9, by decide +kernel, List.mem_of_getElem? (i := 50) (by decide +kernel), List.mem_of_getElem? (i := 24) (by decide +kernel)⟩
abbrev q_J0_charAt_5068e : zY := (yJ0_charAt_5068e, cJ0_charAt_5068e, 2, (some .char), [])
theorem ok_J0_charAt_5068e : zOkV q_J0_charAt_5068e 1 := ⟨⟨List.mem_of_getElem? (i := 372) (by decide +kernel), List.mem_of_getElem? (i := 39) (by decide +kernel), ⟨by decide +kernel, by decide +kernel⟩, by decide +kernel, by decide, rfl⟩, List.mem_of_getElem? (i := 370) (by decide +kernel), List.mem_of_getElem? (i := 371) (by decide +kernel)⟩
abbrev q_J0_checkBoundsBeginEnd_23922 : zY := (yJ0_checkBoundsBeginEnd_23922, cJ0_checkBoundsBeginEnd_23922, 3, none, [])
theorem ok_J0_checkBoundsBeginEnd_23922 : zOkS q_J0_checkBoundsBeginEnd_23922 3 := ⟨⟨List.mem_of_getElem? (i := 318) (by decide +kernel), List.mem_of_getElem? (i := 39) (by decide +kernel), ⟨by decide +kernel, by decide +kernel⟩, by decide +kernel, by decide, rfl⟩, List.mem_of_getElem? (i := 317) (by decide +kernel)⟩
abbrev q_J0_checkIndex_df160 : zY := (yJ0_checkIndex_df160, cJ0_checkIndex_df160, 2, none, [])
theorem ok_J0_checkIndex_df160 : zOkS q_J0_checkIndex_df160 2 := ⟨⟨List.mem_of_getElem? (i := 378) (by decide +kernel), List.mem_of_getElem? (i := 39) (by decide +kernel), ⟨by decide +kernel, by decide +kernel⟩, by decide +kernel, by decide, rfl⟩, List.mem_of_getElem? (i := 377) (by decide +kernel)⟩
abbrev q_J0_coder_7d493 : zY := (yJ0_coder_7d493, cJ0_coder_7d493, 1, (some .byte), [])
theorem ok_J0_coder_7d493 : zOkV q_J0_coder_7d493 0 := ⟨⟨List.mem_of_getElem? (i := 285) (by decide +kernel), List.mem_of_getElem? (i := 39) (by decide +kernel), ⟨by decide +kernel, by decide +kernel⟩, by decide +kernel, by decide, rfl⟩, List.mem_of_getElem? (i := 283) (by decide +kernel), List.mem_of_getElem? (i := 284) (by decide +kernel)⟩
abbrev q_J0_indexOf_0f7a4 : zY := (yJ0_indexOf_0f7a4, cJ0_indexOf_0f7a4, 2, (some .int), [])
theorem ok_J0_indexOf_0f7a4 : zOkV q_J0_indexOf_0f7a4 1 := ⟨⟨List.mem_of_getElem? (i := 267) (by decide +kernel), List.mem_of_getElem? (i := 39) (by decide +kernel), ⟨by decide +kernel, by decide +kernel⟩, by decide +kernel, by decide, rfl⟩, List.mem_of_getElem? (i := 265) (by decide +kernel), List.mem_of_getElem? (i := 266) (by decide +kernel)⟩
abbrev q_J0_indexOf_7cf53 : zY := (yJ0_indexOf_7cf53, cJ0_indexOf_7cf53, 3, (some .int), [])
theorem ok_J0_indexOf_7cf53 : zOkV q_J0_indexOf_7cf53 2 := ⟨⟨List.mem_of_getElem? (i := 271) (by decide +kernel), List.mem_of_getElem? (i := 39) (by decide +kernel), ⟨by decide +kernel, by decide +kernel⟩, by decide +kernel, by decide, rfl⟩, List.mem_of_getElem? (i := 269) (by decide +kernel), List.mem_of_getElem? (i := 270) (by decide +kernel)⟩
abbrev q_J0_isLatin1_aae02 : zY := (yJ0_isLatin1_aae02, cJ0_isLatin1_aae02, 1, (some .boolean), [])
theorem ok_J0_isLatin1_aae02 : zOkV q_J0_isLatin1_aae02 0 := ⟨⟨List.mem_of_getElem? (i := 275) (by decide +kernel), List.mem_of_getElem? (i := 39) (by decide +kernel), ⟨by decide +kernel, by decide +kernel⟩, by decide +kernel, by decide, rfl⟩, List.mem_of_getElem? (i := 273) (by decide +kernel), List.mem_of_getElem? (i := 274) (by decide +kernel)⟩
abbrev q_J0_length_8abf5 : zY := (yJ0_length_8abf5, cJ0_length_8abf5, 1, (some .int), [])
theorem ok_J0_length_8abf5 : zOkV q_J0_length_8abf5 0 := ⟨⟨List.mem_of_getElem? (i := 281) (by decide +kernel), List.mem_of_getElem? (i := 39) (by decide +kernel), ⟨by decide +kernel, by decide +kernel⟩, by decide +kernel, by decide, rfl⟩, List.mem_of_getElem? (i := 279) (by decide +kernel), List.mem_of_getElem? (i := 280) (by decide +kernel)⟩
abbrev q_J11_highSurrogate_5068e : zY := (yJ11_highSurrogate_5068e, cJ11_highSurrogate_5068e, 1, (some .char), [])
theorem ok_J11_highSurrogate_5068e : zOkS q_J11_highSurrogate_5068e 1 := ⟨⟨List.mem_of_getElem? (i := 344) (by decide +kernel), List.mem_of_getElem? (i := 43) (by decide +kernel), ⟨by decide +kernel, by decide +kernel⟩, by decide +kernel, by decide, rfl⟩, List.mem_of_getElem? (i := 343) (by decide +kernel)⟩
abbrev q_J11_isValidCodePoint_9a6ad : zY := (yJ11_isValidCodePoint_9a6ad, cJ11_isValidCodePoint_9a6ad, 2, (some .boolean), [])
theorem ok_J11_isValidCodePoint_9a6ad : zOkS q_J11_isValidCodePoint_9a6ad 1 := ⟨⟨List.mem_of_getElem? (i := 341) (by decide +kernel), List.mem_of_getElem? (i := 43) (by decide +kernel), ⟨by decide +kernel, by decide +kernel⟩, by decide +kernel, by decide, rfl⟩, List.mem_of_getElem? (i := 340) (by decide +kernel)⟩
abbrev q_J11_lowSurrogate_5068e : zY := (yJ11_lowSurrogate_5068e, cJ11_lowSurrogate_5068e, 1, (some .char), [])
theorem ok_J11_lowSurrogate_5068e : zOkS q_J11_lowSurrogate_5068e 1 := ⟨⟨List.mem_of_getElem? (i := 348) (by decide +kernel), List.mem_of_getElem? (i := 43) (by decide +kernel), ⟨by decide +kernel, by decide +kernel⟩, by decide +kernel, by decide, rfl⟩, List.mem_of_getElem? (i := 347) (by decide +kernel)⟩
abbrev q_J1_canEncode_9a6ad : zY := (yJ1_canEncode_9a6ad, cJ1_canEncode_9a6ad, 1, (some .boolean), [])
theorem ok_J1_canEncode_9a6ad : zOkS q_J1_canEncode_9a6ad 1 := ⟨⟨List.mem_of_getElem? (i := 291) (by decide +kernel), List.mem_of_getElem? (i := 40) (by decide +kernel), ⟨by decide +kernel, by decide +kernel⟩, by decide +kernel, by decide, rfl⟩, List.mem_of_getElem? (i := 290) (by decide +kernel)⟩
abbrev q_J1_charAt_3b067 : zY := (yJ1_charAt_3b067, cJ1_charAt_3b067, 2, (some .char), [])
theorem ok_J1_charAt_3b067 : zOkS q_J1_charAt_3b067 2 := ⟨⟨List.mem_of_getElem? (i := 375) (by decide +kernel), List.mem_of_getElem? (i := 40) (by decide +kernel), ⟨by decide +kernel, by decide +kernel⟩, by decide +kernel, by decide, rfl⟩, List.mem_of_getElem? (i := 374) (by decide +kernel)⟩
abbrev q_J1_indexOfChar_4cfef : zY := (yJ1_indexOfChar_4cfef, cJ1_indexOfChar_4cfef, 6, (some .int), [])
theorem ok_J1_indexOfChar_4cfef : zOkS q_J1_indexOfChar_4cfef 4 := ⟨⟨List.mem_of_getElem? (i := 300) (by decide +kernel), List.mem_of_getElem? (i := 40) (by decide +kernel), ⟨by decide +kernel, by decide +kernel⟩, by decide +kernel, by decide, rfl⟩, List.mem_of_getElem? (i := 299) (by decide +kernel)⟩
abbrev q_J1_indexOf_4cfef : zY := (yJ1_indexOf_4cfef, cJ1_indexOf_4cfef, 4, (some .int), [])
theorem ok_J1_indexOf_4cfef : zOkS q_J1_indexOf_4cfef 4 := ⟨⟨List.mem_of_getElem? (i := 288) (by decide +kernel), List.mem_of_getElem? (i := 40) (by decide +kernel), ⟨by decide +kernel, by decide +kernel⟩, by decide +kernel, by decide, rfl⟩, List.mem_of_getElem? (i := 287) (by decide +kernel)⟩
abbrev q_J2_charAt_3b067 : zY := (yJ2_charAt_3b067, cJ2_charAt_3b067, 2, (some .char), [])
theorem ok_J2_charAt_3b067 : zOkS q_J2_charAt_3b067 2 := ⟨⟨List.mem_of_getElem? (i := 384) (by decide +kernel), List.mem_of_getElem? (i := 41) (by decide +kernel), ⟨by decide +kernel, by decide +kernel⟩, by decide +kernel, by decide, rfl⟩, List.mem_of_getElem? (i := 383) (by decide +kernel)⟩
abbrev q_J2_checkBoundsBeginEnd_d044e : zY := (yJ2_checkBoundsBeginEnd_d044e, cJ2_checkBoundsBeginEnd_d044e, 3, none, [])
theorem ok_J2_checkBoundsBeginEnd_d044e : zOkS q_J2_checkBoundsBeginEnd_d044e 3 := ⟨⟨List.mem_of_getElem? (i := 312) (by decide +kernel), List.mem_of_getElem? (i := 41) (by decide +kernel), ⟨by decide +kernel, by decide +kernel⟩, by decide +kernel, by decide, rfl⟩, List.mem_of_getElem? (i := 311) (by decide +kernel)⟩
abbrev q_J2_checkIndex_2214a : zY := (yJ2_checkIndex_2214a, cJ2_checkIndex_2214a, 2, none, [])
theorem ok_J2_checkIndex_2214a : zOkS q_J2_checkIndex_2214a 2 := ⟨⟨List.mem_of_getElem? (i := 387) (by decide +kernel), List.mem_of_getElem? (i := 41) (by decide +kernel), ⟨by decide +kernel, by decide +kernel⟩, by decide +kernel, by decide, rfl⟩, List.mem_of_getElem? (i := 386) (by decide +kernel)⟩
abbrev q_J2_getChar_3b067 : zY := (yJ2_getChar_3b067, cJ2_getChar_3b067, 2, (some .char), [])
theorem ok_J2_getChar_3b067 : zOkS q_J2_getChar_3b067 2 := ⟨⟨List.mem_of_getElem? (i := 329) (by decide +kernel), List.mem_of_getElem? (i := 41) (by decide +kernel), ⟨by decide +kernel, by decide +kernel⟩, by decide +kernel, by decide, rfl⟩, List.mem_of_getElem? (i := 328) (by decide +kernel)⟩
abbrev q_J2_indexOfCharUnsafe_4cfef : zY := (yJ2_indexOfCharUnsafe_4cfef, cJ2_indexOfCharUnsafe_4cfef, 5, (some .int), [])
theorem ok_J2_indexOfCharUnsafe_4cfef : zOkS q_J2_indexOfCharUnsafe_4cfef 4 := ⟨⟨List.mem_of_getElem? (i := 326) (by decide +kernel), List.mem_of_getElem? (i := 41) (by decide +kernel), ⟨by decide +kernel, by decide +kernel⟩, by decide +kernel, by decide, rfl⟩, List.mem_of_getElem? (i := 325) (by decide +kernel)⟩
abbrev q_J2_indexOfChar_4cfef : zY := (yJ2_indexOfChar_4cfef, cJ2_indexOfChar_4cfef, 4, (some .int), [])
theorem ok_J2_indexOfChar_4cfef : zOkS q_J2_indexOfChar_4cfef 4 := ⟨⟨List.mem_of_getElem? (i := 309) (by decide +kernel), List.mem_of_getElem? (i := 41) (by decide +kernel), ⟨by decide +kernel, by decide +kernel⟩, by decide +kernel, by decide, rfl⟩, List.mem_of_getElem? (i := 308) (by decide +kernel)⟩
abbrev q_J2_indexOfSupplementary_4cfef : zY := (yJ2_indexOfSupplementary_4cfef, cJ2_indexOfSupplementary_4cfef, 7, (some .int), [])
theorem ok_J2_indexOfSupplementary_4cfef : zOkS q_J2_indexOfSupplementary_4cfef 4 := ⟨⟨List.mem_of_getElem? (i := 338) (by decide +kernel), List.mem_of_getElem? (i := 41) (by decide +kernel), ⟨by decide +kernel, by decide +kernel⟩, by decide +kernel, by decide, rfl⟩, List.mem_of_getElem? (i := 337) (by decide +kernel)⟩
abbrev q_J2_indexOf_4cfef : zY := (yJ2_indexOf_4cfef, cJ2_indexOf_4cfef, 4, (some .int), [])
theorem ok_J2_indexOf_4cfef : zOkS q_J2_indexOf_4cfef 4 := ⟨⟨List.mem_of_getElem? (i := 303) (by decide +kernel), List.mem_of_getElem? (i := 41) (by decide +kernel), ⟨by decide +kernel, by decide +kernel⟩, by decide +kernel, by decide, rfl⟩, List.mem_of_getElem? (i := 302) (by decide +kernel)⟩
abbrev q_J2_length_9d52b : zY := (yJ2_length_9d52b, cJ2_length_9d52b, 1, (some .int), [])
theorem ok_J2_length_9d52b : zOkS q_J2_length_9d52b 1 := ⟨⟨List.mem_of_getElem? (i := 315) (by decide +kernel), List.mem_of_getElem? (i := 41) (by decide +kernel), ⟨by decide +kernel, by decide +kernel⟩, by decide +kernel, by decide, rfl⟩, List.mem_of_getElem? (i := 314) (by decide +kernel)⟩
abbrev q_J3_checkFromToIndex_8c36e : zY := (yJ3_checkFromToIndex_8c36e, cJ3_checkFromToIndex_8c36e, 4, (some .int), [])
theorem ok_J3_checkFromToIndex_8c36e : zOkS q_J3_checkFromToIndex_8c36e 4 := ⟨⟨List.mem_of_getElem? (i := 323) (by decide +kernel), List.mem_of_getElem? (i := 42) (by decide +kernel), ⟨by decide +kernel, by decide +kernel⟩, by decide +kernel, by decide, rfl⟩, List.mem_of_getElem? (i := 322) (by decide +kernel)⟩
abbrev q_J3_checkIndex_8e157 : zY := (yJ3_checkIndex_8e157, cJ3_checkIndex_8e157, 3, (some .int), [])
theorem ok_J3_checkIndex_8e157 : zOkS q_J3_checkIndex_8e157 3 := ⟨⟨List.mem_of_getElem? (i := 381) (by decide +kernel), List.mem_of_getElem? (i := 42) (by decide +kernel), ⟨by decide +kernel, by decide +kernel⟩, by decide +kernel, by decide, rfl⟩, List.mem_of_getElem? (i := 380) (by decide +kernel)⟩
abbrev q_J6_bitCount_0f7a4 : zY := (yJ6_bitCount_0f7a4, cJ6_bitCount_0f7a4, 1, (some .int), [])
theorem ok_J6_bitCount_0f7a4 : zOkS q_J6_bitCount_0f7a4 1 := ⟨⟨List.mem_of_getElem? (i := 881) (by decide +kernel), List.mem_of_getElem? (i := 47) (by decide +kernel), ⟨by decide +kernel, by decide +kernel⟩, by decide +kernel, by decide, rfl⟩, List.mem_of_getElem? (i := 880) (by decide +kernel)⟩
abbrev q_J9_abs_0f7a4 : zY := (yJ9_abs_0f7a4, cJ9_abs_0f7a4, 1, (some .int), [])
theorem ok_J9_abs_0f7a4 : zOkS q_J9_abs_0f7a4 1 := ⟨⟨List.mem_of_getElem? (i := 841) (by decide +kernel), List.mem_of_getElem? (i := 34) (by decide +kernel), ⟨by decide +kernel, by decide +kernel⟩, by decide +kernel, by decide, rfl⟩, List.mem_of_getElem? (i := 840) (by decide +kernel)⟩
abbrev q_J9_floorDiv_7cf53 : zY := (yJ9_floorDiv_7cf53, cJ9_floorDiv_7cf53, 3, (some .int), [])
theorem ok_J9_floorDiv_7cf53 : zOkS q_J9_floorDiv_7cf53 2 := ⟨⟨List.mem_of_getElem? (i := 838) (by decide +kernel), List.mem_of_getElem? (i := 34) (by decide +kernel), ⟨by decide +kernel, by decide +kernel⟩, by decide +kernel, by decide, rfl⟩, List.mem_of_getElem? (i := 837) (by decide +kernel)⟩
abbrev q_J9_floorMod_7cf53 : zY := (yJ9_floorMod_7cf53, cJ9_floorMod_7cf53, 3, (some .int), [])
theorem ok_J9_floorMod_7cf53 : zOkS q_J9_floorMod_7cf53 2 := ⟨⟨List.mem_of_getElem? (i := 447) (by decide +kernel), List.mem_of_getElem? (i := 34) (by decide +kernel), ⟨by decide +kernel, by decide +kernel⟩, by decide +kernel, by decide, rfl⟩, List.mem_of_getElem? (i := 446) (by decide +kernel)⟩
abbrev q_J9_max_7cf53 : zY := (yJ9_max_7cf53, cJ9_max_7cf53, 2, (some .int), [])
theorem ok_J9_max_7cf53 : zOkS q_J9_max_7cf53 2 := ⟨⟨List.mem_of_getElem? (i := 294) (by decide +kernel), List.mem_of_getElem? (i := 34) (by decide +kernel), ⟨by decide +kernel, by decide +kernel⟩, by decide +kernel, by decide, rfl⟩, List.mem_of_getElem? (i := 293) (by decide +kernel)⟩
abbrev q_J9_min_7cf53 : zY := (yJ9_min_7cf53, cJ9_min_7cf53, 2, (some .int), [])
theorem ok_J9_min_7cf53 : zOkS q_J9_min_7cf53 2 := ⟨⟨List.mem_of_getElem? (i := 297) (by decide +kernel), List.mem_of_getElem? (i := 34) (by decide +kernel), ⟨by decide +kernel, by decide +kernel⟩, by decide +kernel, by decide, rfl⟩, List.mem_of_getElem? (i := 296) (by decide +kernel)⟩
abbrev q_L_added : zY := (yL_added, cL_added, 4, (some .int), [(0, 6, 7, 66), (0, 6, 12, 71)])
theorem ok_L_added : zOkH q_L_added 3 := ⟨List.mem_of_getElem? (i := 706) (by decide +kernel), List.mem_of_getElem? (i := 23) (by decide +kernel), ⟨by decide +kernel, by decide +kernel⟩, by decide +kernel, by decide, List.mem_of_getElem? (i := 705) (by decide +kernel)⟩
abbrev q_L_bassBy : zY := (yL_bassBy, cL_bassBy, 1, (some .int), [])
theorem ok_L_bassBy : zOkS q_L_bassBy 1 := ⟨⟨List.mem_of_getElem? (i := 806) (by decide +kernel), List.mem_of_getElem? (i := 23) (by decide +kernel), ⟨by decide +kernel, by decide +kernel⟩, by decide +kernel, by decide, rfl⟩, List.mem_of_getElem? (i := 805) (by decide +kernel)⟩
abbrev q_L_cell : zY := (yL_cell, cL_cell, 2, (some .int), [])
theorem ok_L_cell : zOkS q_L_cell 2 := ⟨⟨List.mem_of_getElem? (i := 535) (by decide +kernel), List.mem_of_getElem? (i := 23) (by decide +kernel), ⟨by decide +kernel, by decide +kernel⟩, by decide +kernel, by decide, rfl⟩, List.mem_of_getElem? (i := 534) (by decide +kernel)⟩
abbrev q_L_changes : zY := (yL_changes, cL_changes, 10, (some .boolean), [])
theorem ok_L_changes : zOkS q_L_changes 2 := ⟨⟨List.mem_of_getElem? (i := 1019) (by decide +kernel), List.mem_of_getElem? (i := 23) (by decide +kernel), ⟨by decide +kernel, by decide +kernel⟩, by decide +kernel, by decide, rfl⟩, List.mem_of_getElem? (i := 1018) (by decide +kernel)⟩
abbrev q_L_chord : zY := (yL_chord, cL_chord, 3, (some .int), [])
theorem ok_L_chord : zOkS q_L_chord 2 := ⟨⟨List.mem_of_getElem? (i := 776) (by decide +kernel), List.mem_of_getElem? (i := 23) (by decide +kernel), ⟨by decide +kernel, by decide +kernel⟩, by decide +kernel, by decide, rfl⟩, List.mem_of_getElem? (i := 775) (by decide +kernel)⟩
abbrev q_L_chords : zY := (yL_chords, cL_chords, 6, (some .boolean), [])
theorem ok_L_chords : zOkS q_L_chords 1 := ⟨⟨List.mem_of_getElem? (i := 809) (by decide +kernel), List.mem_of_getElem? (i := 23) (by decide +kernel), ⟨by decide +kernel, by decide +kernel⟩, by decide +kernel, by decide, rfl⟩, List.mem_of_getElem? (i := 808) (by decide +kernel)⟩
abbrev q_L_fails : zY := (yL_fails, cL_fails, 5, (some .boolean), [])
theorem ok_L_fails : zOkS q_L_fails 1 := ⟨⟨List.mem_of_getElem? (i := 654) (by decide +kernel), List.mem_of_getElem? (i := 23) (by decide +kernel), ⟨by decide +kernel, by decide +kernel⟩, by decide +kernel, by decide, rfl⟩, List.mem_of_getElem? (i := 653) (by decide +kernel)⟩
abbrev q_L_key : zY := (yL_key, cL_key, 4, (some .int), [(0, 6, 7, 76)])
theorem ok_L_key : zOkH q_L_key 3 := ⟨List.mem_of_getElem? (i := 626) (by decide +kernel), List.mem_of_getElem? (i := 23) (by decide +kernel), ⟨by decide +kernel, by decide +kernel⟩, by decide +kernel, by decide, List.mem_of_getElem? (i := 625) (by decide +kernel)⟩
abbrev q_L_letter : zY := (yL_letter, cL_letter, 1, (some .int), [])
theorem ok_L_letter : zOkS q_L_letter 1 := ⟨⟨List.mem_of_getElem? (i := 785) (by decide +kernel), List.mem_of_getElem? (i := 23) (by decide +kernel), ⟨by decide +kernel, by decide +kernel⟩, by decide +kernel, by decide, rfl⟩, List.mem_of_getElem? (i := 784) (by decide +kernel)⟩
abbrev q_L_note : zY := (yL_note, cL_note, 4, (some .int), [])
theorem ok_L_note : zOkS q_L_note 2 := ⟨⟨List.mem_of_getElem? (i := 782) (by decide +kernel), List.mem_of_getElem? (i := 23) (by decide +kernel), ⟨by decide +kernel, by decide +kernel⟩, by decide +kernel, by decide, rfl⟩, List.mem_of_getElem? (i := 781) (by decide +kernel)⟩
abbrev q_L_pitch : zY := (yL_pitch, cL_pitch, 1, (some .int), [])
theorem ok_L_pitch : zOkS q_L_pitch 1 := ⟨⟨List.mem_of_getElem? (i := 887) (by decide +kernel), List.mem_of_getElem? (i := 23) (by decide +kernel), ⟨by decide +kernel, by decide +kernel⟩, by decide +kernel, by decide, rfl⟩, List.mem_of_getElem? (i := 886) (by decide +kernel)⟩
abbrev q_L_quality : zY := (yL_quality, cL_quality, 1, (some .long), [])
theorem ok_L_quality : zOkS q_L_quality 1 := ⟨⟨List.mem_of_getElem? (i := 791) (by decide +kernel), List.mem_of_getElem? (i := 23) (by decide +kernel), ⟨by decide +kernel, by decide +kernel⟩, by decide +kernel, by decide, rfl⟩, List.mem_of_getElem? (i := 790) (by decide +kernel)⟩
abbrev q_L_qualityBy : zY := (yL_qualityBy, cL_qualityBy, 1, (some .int), [])
theorem ok_L_qualityBy : zOkS q_L_qualityBy 1 := ⟨⟨List.mem_of_getElem? (i := 788) (by decide +kernel), List.mem_of_getElem? (i := 23) (by decide +kernel), ⟨by decide +kernel, by decide +kernel⟩, by decide +kernel, by decide, rfl⟩, List.mem_of_getElem? (i := 787) (by decide +kernel)⟩
abbrev q_L_rootBy : zY := (yL_rootBy, cL_rootBy, 1, (some .int), [])
theorem ok_L_rootBy : zOkS q_L_rootBy 1 := ⟨⟨List.mem_of_getElem? (i := 779) (by decide +kernel), List.mem_of_getElem? (i := 23) (by decide +kernel), ⟨by decide +kernel, by decide +kernel⟩, by decide +kernel, by decide, rfl⟩, List.mem_of_getElem? (i := 778) (by decide +kernel)⟩
abbrev q_L_rows : zY := (yL_rows, cL_rows, 11, (some .boolean), [])
theorem ok_L_rows : zOkS q_L_rows 2 := ⟨⟨List.mem_of_getElem? (i := 939) (by decide +kernel), List.mem_of_getElem? (i := 23) (by decide +kernel), ⟨by decide +kernel, by decide +kernel⟩, by decide +kernel, by decide, rfl⟩, List.mem_of_getElem? (i := 938) (by decide +kernel)⟩
abbrev q_L_sheet : zY := (yL_sheet, cL_sheet, 8, (some .int), [])
theorem ok_L_sheet : zOkS q_L_sheet 3 := ⟨⟨List.mem_of_getElem? (i := 763) (by decide +kernel), List.mem_of_getElem? (i := 23) (by decide +kernel), ⟨by decide +kernel, by decide +kernel⟩, by decide +kernel, by decide, rfl⟩, List.mem_of_getElem? (i := 762) (by decide +kernel)⟩
abbrev q_L_told : zY := (yL_told, cL_told, 3, (some .int), [(0, 5, 6, 66)])
theorem ok_L_told : zOkH q_L_told 2 := ⟨List.mem_of_getElem? (i := 677) (by decide +kernel), List.mem_of_getElem? (i := 23) (by decide +kernel), ⟨by decide +kernel, by decide +kernel⟩, by decide +kernel, by decide, List.mem_of_getElem? (i := 676) (by decide +kernel)⟩
abbrev q_L_transposed : zY := (yL_transposed, cL_transposed, 3, (some .int), [(0, 5, 6, 76)])
theorem ok_L_transposed : zOkH q_L_transposed 2 := ⟨List.mem_of_getElem? (i := 750) (by decide +kernel), List.mem_of_getElem? (i := 23) (by decide +kernel), ⟨by decide +kernel, by decide +kernel⟩, by decide +kernel, by decide, List.mem_of_getElem? (i := 749) (by decide +kernel)⟩
abbrev q_L_transposes : zY := (yL_transposes, cL_transposes, 12, (some .boolean), [])
theorem ok_L_transposes : zOkS q_L_transposes 2 := ⟨⟨List.mem_of_getElem? (i := 932) (by decide +kernel), List.mem_of_getElem? (i := 23) (by decide +kernel), ⟨by decide +kernel, by decide +kernel⟩, by decide +kernel, by decide, rfl⟩, List.mem_of_getElem? (i := 931) (by decide +kernel)⟩
abbrev q_L_undone : zY := (yL_undone, cL_undone, 2, (some .int), [(0, 4, 5, 71)])
theorem ok_L_undone : zOkH q_L_undone 1 := ⟨List.mem_of_getElem? (i := 543) (by decide +kernel), List.mem_of_getElem? (i := 23) (by decide +kernel), ⟨by decide +kernel, by decide +kernel⟩, by decide +kernel, by decide, List.mem_of_getElem? (i := 542) (by decide +kernel)⟩
abbrev q_L_up : zY := (yL_up, cL_up, 2, (some .int), [])
theorem ok_L_up : zOkS q_L_up 2 := ⟨⟨List.mem_of_getElem? (i := 539) (by decide +kernel), List.mem_of_getElem? (i := 23) (by decide +kernel), ⟨by decide +kernel, by decide +kernel⟩, by decide +kernel, by decide, rfl⟩, List.mem_of_getElem? (i := 538) (by decide +kernel)⟩
abbrev q_L_word : zY := (yL_word, cL_word, 7, (some .int), [])
theorem ok_L_word : zOkS q_L_word 3 := ⟨⟨List.mem_of_getElem? (i := 803) (by decide +kernel), List.mem_of_getElem? (i := 23) (by decide +kernel), ⟨by decide +kernel, by decide +kernel⟩, by decide +kernel, by decide, rfl⟩, List.mem_of_getElem? (i := 802) (by decide +kernel)⟩
abbrev q_X0_difficultyAt : zY := (yX0_difficultyAt, cX0_difficultyAt, 7, (some .int), [])
theorem ok_X0_difficultyAt : zOkS q_X0_difficultyAt 2 := ⟨⟨List.mem_of_getElem? (i := 898) (by decide +kernel), List.mem_of_getElem? (i := 48) (by decide +kernel), ⟨by decide +kernel, by decide +kernel⟩, by decide +kernel, by decide, rfl⟩, List.mem_of_getElem? (i := 897) (by decide +kernel)⟩
abbrev q_X0_easiestFret : zY := (yX0_easiestFret, cX0_easiestFret, 5, (some .int), [])
theorem ok_X0_easiestFret : zOkS q_X0_easiestFret 1 := ⟨⟨List.mem_of_getElem? (i := 895) (by decide +kernel), List.mem_of_getElem? (i := 48) (by decide +kernel), ⟨by decide +kernel, by decide +kernel⟩, by decide +kernel, by decide, rfl⟩, List.mem_of_getElem? (i := 894) (by decide +kernel)⟩
abbrev q_X0_shapeDifficulty : zY := (yX0_shapeDifficulty, cX0_shapeDifficulty, 6, (some .int), [])
theorem ok_X0_shapeDifficulty : zOkS q_X0_shapeDifficulty 3 := ⟨⟨List.mem_of_getElem? (i := 909) (by decide +kernel), List.mem_of_getElem? (i := 48) (by decide +kernel), ⟨by decide +kernel, by decide +kernel⟩, by decide +kernel, by decide, rfl⟩, List.mem_of_getElem? (i := 908) (by decide +kernel)⟩
abbrev q_X1_init : zY := (yX1_init, cX1_init, 2, none, [])
theorem ok_X1_init : zOkI q_X1_init 0 := ⟨⟨List.mem_of_getElem? (i := 106) (by decide +kernel), List.mem_of_getElem? (i := 27) (by decide +kernel), ⟨by decide +kernel, by decide +kernel⟩, by decide +kernel, by decide, rfl⟩, List.mem_of_getElem? (i := 105) (by decide +kernel), rfl, rfl⟩
abbrev q_X1_isEmpty : zY := (yX1_isEmpty, cX1_isEmpty, 1, (some .boolean), [])
theorem ok_X1_isEmpty : zOkV q_X1_isEmpty 0 := ⟨⟨List.mem_of_getElem? (i := 552) (by decide +kernel), List.mem_of_getElem? (i := 27) (by decide +kernel), ⟨by decide +kernel, by decide +kernel⟩, by decide +kernel, by decide, rfl⟩, List.mem_of_getElem? (i := 550) (by decide +kernel), List.mem_of_getElem? (i := 551) (by decide +kernel)⟩
abbrev q_X1_keep : zY := (yX1_keep, cX1_keep, 3, none, [])
theorem ok_X1_keep : zOkV q_X1_keep 1 := ⟨⟨List.mem_of_getElem? (i := 440) (by decide +kernel), List.mem_of_getElem? (i := 27) (by decide +kernel), ⟨by decide +kernel, by decide +kernel⟩, by decide +kernel, by decide, rfl⟩, List.mem_of_getElem? (i := 438) (by decide +kernel), List.mem_of_getElem? (i := 439) (by decide +kernel)⟩
abbrev q_X1_restore : zY := (yX1_restore, cX1_restore, 3, (some .int), [])
theorem ok_X1_restore : zOkV q_X1_restore 1 := ⟨⟨List.mem_of_getElem? (i := 623) (by decide +kernel), List.mem_of_getElem? (i := 27) (by decide +kernel), ⟨by decide +kernel, by decide +kernel⟩, by decide +kernel, by decide, rfl⟩, List.mem_of_getElem? (i := 621) (by decide +kernel), List.mem_of_getElem? (i := 622) (by decide +kernel)⟩
abbrev q_X1_stateAt : zY := (yX1_stateAt, cX1_stateAt, 3, (some (.object "ChordSheet$Sheet")), [])
theorem ok_X1_stateAt : zOkV q_X1_stateAt 1 := ⟨⟨List.mem_of_getElem? (i := 444) (by decide +kernel), List.mem_of_getElem? (i := 27) (by decide +kernel), ⟨by decide +kernel, by decide +kernel⟩, by decide +kernel, by decide, rfl⟩, List.mem_of_getElem? (i := 443) (by decide +kernel), List.mem_of_getElem? (i := 7) (by decide +kernel)⟩
abbrev q_X2_best : zY := (yX2_best, cX2_best, 3, (some .int), [])
theorem ok_X2_best : zOkS q_X2_best 1 := ⟨⟨List.mem_of_getElem? (i := 455) (by decide +kernel), List.mem_of_getElem? (i := 36) (by decide +kernel), ⟨by decide +kernel, by decide +kernel⟩, by decide +kernel, by decide, rfl⟩, List.mem_of_getElem? (i := 454) (by decide +kernel)⟩
abbrev q_X2_bestSignature : zY := (yX2_bestSignature, cX2_bestSignature, 7, (some .int), [])
theorem ok_X2_bestSignature : zOkS q_X2_bestSignature 2 := ⟨⟨List.mem_of_getElem? (i := 458) (by decide +kernel), List.mem_of_getElem? (i := 36) (by decide +kernel), ⟨by decide +kernel, by decide +kernel⟩, by decide +kernel, by decide, rfl⟩, List.mem_of_getElem? (i := 457) (by decide +kernel)⟩
abbrev q_X2_degreeOf : zY := (yX2_degreeOf, cX2_degreeOf, 7, (some .int), [])
theorem ok_X2_degreeOf : zOkS q_X2_degreeOf 3 := ⟨⟨List.mem_of_getElem? (i := 859) (by decide +kernel), List.mem_of_getElem? (i := 36) (by decide +kernel), ⟨by decide +kernel, by decide +kernel⟩, by decide +kernel, by decide, rfl⟩, List.mem_of_getElem? (i := 858) (by decide +kernel)⟩
abbrev q_X2_isInScale : zY := (yX2_isInScale, cX2_isInScale, 3, (some .boolean), [])
theorem ok_X2_isInScale : zOkS q_X2_isInScale 2 := ⟨⟨List.mem_of_getElem? (i := 473) (by decide +kernel), List.mem_of_getElem? (i := 36) (by decide +kernel), ⟨by decide +kernel, by decide +kernel⟩, by decide +kernel, by decide, rfl⟩, List.mem_of_getElem? (i := 472) (by decide +kernel)⟩
abbrev q_X2_scoreOf : zY := (yX2_scoreOf, cX2_scoreOf, 9, (some .int), [])
theorem ok_X2_scoreOf : zOkS q_X2_scoreOf 3 := ⟨⟨List.mem_of_getElem? (i := 461) (by decide +kernel), List.mem_of_getElem? (i := 36) (by decide +kernel), ⟨by decide +kernel, by decide +kernel⟩, by decide +kernel, by decide, rfl⟩, List.mem_of_getElem? (i := 460) (by decide +kernel)⟩
abbrev q_X2_signatureOf : zY := (yX2_signatureOf, cX2_signatureOf, 2, (some .int), [])
theorem ok_X2_signatureOf : zOkS q_X2_signatureOf 2 := ⟨⟨List.mem_of_getElem? (i := 484) (by decide +kernel), List.mem_of_getElem? (i := 36) (by decide +kernel), ⟨by decide +kernel, by decide +kernel⟩, by decide +kernel, by decide, rfl⟩, List.mem_of_getElem? (i := 483) (by decide +kernel)⟩
abbrev q_X2_simplestSignature : zY := (yX2_simplestSignature, cX2_simplestSignature, 5, (some .int), [])
theorem ok_X2_simplestSignature : zOkS q_X2_simplestSignature 3 := ⟨⟨List.mem_of_getElem? (i := 759) (by decide +kernel), List.mem_of_getElem? (i := 36) (by decide +kernel), ⟨by decide +kernel, by decide +kernel⟩, by decide +kernel, by decide, rfl⟩, List.mem_of_getElem? (i := 758) (by decide +kernel)⟩
abbrev q_X2_tonicOf : zY := (yX2_tonicOf, cX2_tonicOf, 2, (some .int), [])
theorem ok_X2_tonicOf : zOkS q_X2_tonicOf 2 := ⟨⟨List.mem_of_getElem? (i := 464) (by decide +kernel), List.mem_of_getElem? (i := 36) (by decide +kernel), ⟨by decide +kernel, by decide +kernel⟩, by decide +kernel, by decide, rfl⟩, List.mem_of_getElem? (i := 463) (by decide +kernel)⟩
abbrev q_X3_countPairs : zY := (yX3_countPairs, cX3_countPairs, 4, (some .int), [])
theorem ok_X3_countPairs : zOkV q_X3_countPairs 2 := ⟨⟨List.mem_of_getElem? (i := 952) (by decide +kernel), List.mem_of_getElem? (i := 29) (by decide +kernel), ⟨by decide +kernel, by decide +kernel⟩, by decide +kernel, by decide, rfl⟩, List.mem_of_getElem? (i := 950) (by decide +kernel), List.mem_of_getElem? (i := 951) (by decide +kernel)⟩
abbrev q_X3_cutBack : zY := (yX3_cutBack, cX3_cutBack, 1, none, [])
theorem ok_X3_cutBack : zOkV q_X3_cutBack 0 := ⟨⟨List.mem_of_getElem? (i := 997) (by decide +kernel), List.mem_of_getElem? (i := 29) (by decide +kernel), ⟨by decide +kernel, by decide +kernel⟩, by decide +kernel, by decide, rfl⟩, List.mem_of_getElem? (i := 996) (by decide +kernel), List.mem_of_getElem? (i := 22) (by decide +kernel)⟩
abbrev q_X3_find : zY := (yX3_find, cX3_find, 7, (some (.object "ChordSheet$Row")), [])
theorem ok_X3_find : zOkV q_X3_find 4 := ⟨⟨List.mem_of_getElem? (i := 1005) (by decide +kernel), List.mem_of_getElem? (i := 29) (by decide +kernel), ⟨by decide +kernel, by decide +kernel⟩, by decide +kernel, by decide, rfl⟩, List.mem_of_getElem? (i := 1003) (by decide +kernel), List.mem_of_getElem? (i := 1004) (by decide +kernel)⟩
abbrev q_X3_init : zY := (yX3_init, cX3_init, 2, none, [])
theorem ok_X3_init : zOkI q_X3_init 1 := ⟨⟨List.mem_of_getElem? (i := 150) (by decide +kernel), List.mem_of_getElem? (i := 29) (by decide +kernel), ⟨by decide +kernel, by decide +kernel⟩, by decide +kernel, by decide, rfl⟩, List.mem_of_getElem? (i := 149) (by decide +kernel), rfl, rfl⟩
abbrev q_X3_isInnerBreak : zY := (yX3_isInnerBreak, cX3_isInnerBreak, 2, (some .boolean), [])
theorem ok_X3_isInnerBreak : zOkV q_X3_isInnerBreak 1 := ⟨⟨List.mem_of_getElem? (i := 968) (by decide +kernel), List.mem_of_getElem? (i := 29) (by decide +kernel), ⟨by decide +kernel, by decide +kernel⟩, by decide +kernel, by decide, rfl⟩, List.mem_of_getElem? (i := 967) (by decide +kernel), List.mem_of_getElem? (i := 18) (by decide +kernel)⟩
abbrev q_X3_isLetter : zY := (yX3_isLetter, cX3_isLetter, 3, (some .boolean), [])
theorem ok_X3_isLetter : zOkV q_X3_isLetter 1 := ⟨⟨List.mem_of_getElem? (i := 972) (by decide +kernel), List.mem_of_getElem? (i := 29) (by decide +kernel), ⟨by decide +kernel, by decide +kernel⟩, by decide +kernel, by decide, rfl⟩, List.mem_of_getElem? (i := 971) (by decide +kernel), List.mem_of_getElem? (i := 19) (by decide +kernel)⟩
abbrev q_X3_layNext : zY := (yX3_layNext, cX3_layNext, 4, (some .boolean), [])
theorem ok_X3_layNext : zOkV q_X3_layNext 0 := ⟨⟨List.mem_of_getElem? (i := 961) (by decide +kernel), List.mem_of_getElem? (i := 29) (by decide +kernel), ⟨by decide +kernel, by decide +kernel⟩, by decide +kernel, by decide, rfl⟩, List.mem_of_getElem? (i := 960) (by decide +kernel), List.mem_of_getElem? (i := 17) (by decide +kernel)⟩
abbrev q_X3_offerEnd : zY := (yX3_offerEnd, cX3_offerEnd, 3, (some .boolean), [])
theorem ok_X3_offerEnd : zOkV q_X3_offerEnd 1 := ⟨⟨List.mem_of_getElem? (i := 977) (by decide +kernel), List.mem_of_getElem? (i := 29) (by decide +kernel), ⟨by decide +kernel, by decide +kernel⟩, by decide +kernel, by decide, rfl⟩, List.mem_of_getElem? (i := 976) (by decide +kernel), List.mem_of_getElem? (i := 20) (by decide +kernel)⟩
abbrev q_X3_placeChords : zY := (yX3_placeChords, cX3_placeChords, 3, none, [])
theorem ok_X3_placeChords : zOkV q_X3_placeChords 1 := ⟨⟨List.mem_of_getElem? (i := 982) (by decide +kernel), List.mem_of_getElem? (i := 29) (by decide +kernel), ⟨by decide +kernel, by decide +kernel⟩, by decide +kernel, by decide, rfl⟩, List.mem_of_getElem? (i := 981) (by decide +kernel), List.mem_of_getElem? (i := 21) (by decide +kernel)⟩
abbrev q_X3_start : zY := (yX3_start, cX3_start, 3, none, [])
theorem ok_X3_start : zOkV q_X3_start 2 := ⟨⟨List.mem_of_getElem? (i := 956) (by decide +kernel), List.mem_of_getElem? (i := 29) (by decide +kernel), ⟨by decide +kernel, by decide +kernel⟩, by decide +kernel, by decide, rfl⟩, List.mem_of_getElem? (i := 955) (by decide +kernel), List.mem_of_getElem? (i := 16) (by decide +kernel)⟩
abbrev q_X4_hasTwoAccidentals : zY := (yX4_hasTwoAccidentals, cX4_hasTwoAccidentals, 1, (some .boolean), [])
theorem ok_X4_hasTwoAccidentals : zOkS q_X4_hasTwoAccidentals 1 := ⟨⟨List.mem_of_getElem? (i := 532) (by decide +kernel), List.mem_of_getElem? (i := 38) (by decide +kernel), ⟨by decide +kernel, by decide +kernel⟩, by decide +kernel, by decide, rfl⟩, List.mem_of_getElem? (i := 531) (by decide +kernel)⟩
abbrev q_X4_natural : zY := (yX4_natural, cX4_natural, 1, (some .int), [])
theorem ok_X4_natural : zOkS q_X4_natural 1 := ⟨⟨List.mem_of_getElem? (i := 262) (by decide +kernel), List.mem_of_getElem? (i := 38) (by decide +kernel), ⟨by decide +kernel, by decide +kernel⟩, by decide +kernel, by decide, rfl⟩, List.mem_of_getElem? (i := 261) (by decide +kernel)⟩
abbrev q_X4_pitchClass : zY := (yX4_pitchClass, cX4_pitchClass, 1, (some .int), [])
theorem ok_X4_pitchClass : zOkS q_X4_pitchClass 1 := ⟨⟨List.mem_of_getElem? (i := 467) (by decide +kernel), List.mem_of_getElem? (i := 38) (by decide +kernel), ⟨by decide +kernel, by decide +kernel⟩, by decide +kernel, by decide, rfl⟩, List.mem_of_getElem? (i := 466) (by decide +kernel)⟩
abbrev q_X4_placeFrom : zY := (yX4_placeFrom, cX4_placeFrom, 2, (some .int), [])
theorem ok_X4_placeFrom : zOkS q_X4_placeFrom 2 := ⟨⟨List.mem_of_getElem? (i := 476) (by decide +kernel), List.mem_of_getElem? (i := 38) (by decide +kernel), ⟨by decide +kernel, by decide +kernel⟩, by decide +kernel, by decide, rfl⟩, List.mem_of_getElem? (i := 475) (by decide +kernel)⟩
abbrev q_X4_raised : zY := (yX4_raised, cX4_raised, 2, (some .int), [])
theorem ok_X4_raised : zOkS q_X4_raised 2 := ⟨⟨List.mem_of_getElem? (i := 525) (by decide +kernel), List.mem_of_getElem? (i := 38) (by decide +kernel), ⟨by decide +kernel, by decide +kernel⟩, by decide +kernel, by decide, rfl⟩, List.mem_of_getElem? (i := 524) (by decide +kernel)⟩
abbrev q_X4_raisedSet : zY := (yX4_raisedSet, cX4_raisedSet, 3, (some .int), [])
theorem ok_X4_raisedSet : zOkS q_X4_raisedSet 2 := ⟨⟨List.mem_of_getElem? (i := 878) (by decide +kernel), List.mem_of_getElem? (i := 38) (by decide +kernel), ⟨by decide +kernel, by decide +kernel⟩, by decide +kernel, by decide, rfl⟩, List.mem_of_getElem? (i := 877) (by decide +kernel)⟩
abbrev q_X4_spelled : zY := (yX4_spelled, cX4_spelled, 5, (some .int), [])
theorem ok_X4_spelled : zOkS q_X4_spelled 3 := ⟨⟨List.mem_of_getElem? (i := 528) (by decide +kernel), List.mem_of_getElem? (i := 38) (by decide +kernel), ⟨by decide +kernel, by decide +kernel⟩, by decide +kernel, by decide, rfl⟩, List.mem_of_getElem? (i := 527) (by decide +kernel)⟩
abbrev q_X4_write : zY := (yX4_write, cX4_write, 4, none, [])
theorem ok_X4_write : zOkS q_X4_write 2 := ⟨⟨List.mem_of_getElem? (i := 833) (by decide +kernel), List.mem_of_getElem? (i := 38) (by decide +kernel), ⟨by decide +kernel, by decide +kernel⟩, by decide +kernel, by decide, rfl⟩, List.mem_of_getElem? (i := 832) (by decide +kernel)⟩
abbrev q_X5_at : zY := (yX5_at, cX5_at, 1, (some (.object "ChordSheet$Quality")), [])
theorem ok_X5_at : zOkS q_X5_at 1 := ⟨⟨List.mem_of_getElem? (i := 361) (by decide +kernel), List.mem_of_getElem? (i := 45) (by decide +kernel), ⟨by decide +kernel, by decide +kernel⟩, by decide +kernel, by decide, rfl⟩, List.mem_of_getElem? (i := 360) (by decide +kernel)⟩
abbrev q_X5_count : zY := (yX5_count, cX5_count, 0, (some .int), [])
theorem ok_X5_count : zOkS q_X5_count 0 := ⟨⟨List.mem_of_getElem? (i := 356) (by decide +kernel), List.mem_of_getElem? (i := 45) (by decide +kernel), ⟨by decide +kernel, by decide +kernel⟩, by decide +kernel, by decide, rfl⟩, List.mem_of_getElem? (i := 355) (by decide +kernel)⟩
abbrev q_X5_isEasyOn : zY := (yX5_isEasyOn, cX5_isEasyOn, 2, (some .boolean), [])
theorem ok_X5_isEasyOn : zOkV q_X5_isEasyOn 1 := ⟨⟨List.mem_of_getElem? (i := 906) (by decide +kernel), List.mem_of_getElem? (i := 45) (by decide +kernel), ⟨by decide +kernel, by decide +kernel⟩, by decide +kernel, by decide, rfl⟩, List.mem_of_getElem? (i := 904) (by decide +kernel), List.mem_of_getElem? (i := 905) (by decide +kernel)⟩
abbrev q_X5_tonesOn : zY := (yX5_tonesOn, cX5_tonesOn, 2, (some .int), [])
theorem ok_X5_tonesOn : zOkV q_X5_tonesOn 1 := ⟨⟨List.mem_of_getElem? (i := 875) (by decide +kernel), List.mem_of_getElem? (i := 45) (by decide +kernel), ⟨by decide +kernel, by decide +kernel⟩, by decide +kernel, by decide, rfl⟩, List.mem_of_getElem? (i := 873) (by decide +kernel), List.mem_of_getElem? (i := 874) (by decide +kernel)⟩
abbrev q_X6_bass : zY := (yX6_bass, cX6_bass, 1, (some .int), [])
theorem ok_X6_bass : zOkV q_X6_bass 0 := ⟨⟨List.mem_of_getElem? (i := 742) (by decide +kernel), List.mem_of_getElem? (i := 28) (by decide +kernel), ⟨by decide +kernel, by decide +kernel⟩, by decide +kernel, by decide, rfl⟩, List.mem_of_getElem? (i := 740) (by decide +kernel), List.mem_of_getElem? (i := 741) (by decide +kernel)⟩
abbrev q_X6_init : zY := (yX6_init, cX6_init, 2, none, [])
theorem ok_X6_init : zOkI q_X6_init 1 := ⟨⟨List.mem_of_getElem? (i := 125) (by decide +kernel), List.mem_of_getElem? (i := 28) (by decide +kernel), ⟨by decide +kernel, by decide +kernel⟩, by decide +kernel, by decide, rfl⟩, List.mem_of_getElem? (i := 124) (by decide +kernel), rfl, rfl⟩
abbrev q_X6_quality : zY := (yX6_quality, cX6_quality, 1, (some .int), [])
theorem ok_X6_quality : zOkV q_X6_quality 0 := ⟨⟨List.mem_of_getElem? (i := 738) (by decide +kernel), List.mem_of_getElem? (i := 28) (by decide +kernel), ⟨by decide +kernel, by decide +kernel⟩, by decide +kernel, by decide, rfl⟩, List.mem_of_getElem? (i := 736) (by decide +kernel), List.mem_of_getElem? (i := 737) (by decide +kernel)⟩
abbrev q_X6_readChord : zY := (yX6_readChord, cX6_readChord, 2, none, [])
theorem ok_X6_readChord : zOkV q_X6_readChord 1 := ⟨⟨List.mem_of_getElem? (i := 255) (by decide +kernel), List.mem_of_getElem? (i := 28) (by decide +kernel), ⟨by decide +kernel, by decide +kernel⟩, by decide +kernel, by decide, rfl⟩, List.mem_of_getElem? (i := 254) (by decide +kernel), List.mem_of_getElem? (i := 0) (by decide +kernel)⟩
abbrev q_X6_readNote : zY := (yX6_readNote, cX6_readNote, 3, (some .int), [])
theorem ok_X6_readNote : zOkV q_X6_readNote 0 := ⟨⟨List.mem_of_getElem? (i := 259) (by decide +kernel), List.mem_of_getElem? (i := 28) (by decide +kernel), ⟨by decide +kernel, by decide +kernel⟩, by decide +kernel, by decide, rfl⟩, List.mem_of_getElem? (i := 258) (by decide +kernel), List.mem_of_getElem? (i := 1) (by decide +kernel)⟩
abbrev q_X6_readQuality : zY := (yX6_readQuality, cX6_readQuality, 6, (some .boolean), [])
theorem ok_X6_readQuality : zOkV q_X6_readQuality 0 := ⟨⟨List.mem_of_getElem? (i := 353) (by decide +kernel), List.mem_of_getElem? (i := 28) (by decide +kernel), ⟨by decide +kernel, by decide +kernel⟩, by decide +kernel, by decide, rfl⟩, List.mem_of_getElem? (i := 352) (by decide +kernel), List.mem_of_getElem? (i := 2) (by decide +kernel)⟩
abbrev q_X6_readSheet : zY := (yX6_readSheet, cX6_readSheet, 4, (some .int), [])
theorem ok_X6_readSheet : zOkV q_X6_readSheet 1 := ⟨⟨List.mem_of_getElem? (i := 238) (by decide +kernel), List.mem_of_getElem? (i := 28) (by decide +kernel), ⟨by decide +kernel, by decide +kernel⟩, by decide +kernel, by decide, rfl⟩, List.mem_of_getElem? (i := 236) (by decide +kernel), List.mem_of_getElem? (i := 237) (by decide +kernel)⟩
abbrev q_X6_readSingleChord : zY := (yX6_readSingleChord, cX6_readSingleChord, 1, (some .int), [])
theorem ok_X6_readSingleChord : zOkV q_X6_readSingleChord 0 := ⟨⟨List.mem_of_getElem? (i := 730) (by decide +kernel), List.mem_of_getElem? (i := 28) (by decide +kernel), ⟨by decide +kernel, by decide +kernel⟩, by decide +kernel, by decide, rfl⟩, List.mem_of_getElem? (i := 728) (by decide +kernel), List.mem_of_getElem? (i := 729) (by decide +kernel)⟩
abbrev q_X6_root : zY := (yX6_root, cX6_root, 1, (some .int), [])
theorem ok_X6_root : zOkV q_X6_root 0 := ⟨⟨List.mem_of_getElem? (i := 734) (by decide +kernel), List.mem_of_getElem? (i := 28) (by decide +kernel), ⟨by decide +kernel, by decide +kernel⟩, by decide +kernel, by decide, rfl⟩, List.mem_of_getElem? (i := 732) (by decide +kernel), List.mem_of_getElem? (i := 733) (by decide +kernel)⟩
abbrev q_X6_sharedLength : zY := (yX6_sharedLength, cX6_sharedLength, 3, (some .int), [])
theorem ok_X6_sharedLength : zOkV q_X6_sharedLength 1 := ⟨⟨List.mem_of_getElem? (i := 367) (by decide +kernel), List.mem_of_getElem? (i := 28) (by decide +kernel), ⟨by decide +kernel, by decide +kernel⟩, by decide +kernel, by decide, rfl⟩, List.mem_of_getElem? (i := 366) (by decide +kernel), List.mem_of_getElem? (i := 3) (by decide +kernel)⟩
abbrev q_X7_add : zY := (yX7_add, cX7_add, 2, none, [])
theorem ok_X7_add : zOkV q_X7_add 1 := ⟨⟨List.mem_of_getElem? (i := 773) (by decide +kernel), List.mem_of_getElem? (i := 25) (by decide +kernel), ⟨by decide +kernel, by decide +kernel⟩, by decide +kernel, by decide, rfl⟩, List.mem_of_getElem? (i := 771) (by decide +kernel), List.mem_of_getElem? (i := 772) (by decide +kernel)⟩
abbrev q_X7_addAll : zY := (yX7_addAll, cX7_addAll, 3, none, [])
theorem ok_X7_addAll : zOkV q_X7_addAll 1 := ⟨⟨List.mem_of_getElem? (i := 846) (by decide +kernel), List.mem_of_getElem? (i := 25) (by decide +kernel), ⟨by decide +kernel, by decide +kernel⟩, by decide +kernel, by decide, rfl⟩, List.mem_of_getElem? (i := 844) (by decide +kernel), List.mem_of_getElem? (i := 845) (by decide +kernel)⟩
abbrev q_X7_at : zY := (yX7_at, cX7_at, 2, (some .int), [])
theorem ok_X7_at : zOkV q_X7_at 1 := ⟨⟨List.mem_of_getElem? (i := 247) (by decide +kernel), List.mem_of_getElem? (i := 25) (by decide +kernel), ⟨by decide +kernel, by decide +kernel⟩, by decide +kernel, by decide, rfl⟩, List.mem_of_getElem? (i := 245) (by decide +kernel), List.mem_of_getElem? (i := 246) (by decide +kernel)⟩
abbrev q_X7_cutTo : zY := (yX7_cutTo, cX7_cutTo, 2, none, [])
theorem ok_X7_cutTo : zOkV q_X7_cutTo 1 := ⟨⟨List.mem_of_getElem? (i := 230) (by decide +kernel), List.mem_of_getElem? (i := 25) (by decide +kernel), ⟨by decide +kernel, by decide +kernel⟩, by decide +kernel, by decide, rfl⟩, List.mem_of_getElem? (i := 228) (by decide +kernel), List.mem_of_getElem? (i := 229) (by decide +kernel)⟩
abbrev q_X7_fillTo : zY := (yX7_fillTo, cX7_fillTo, 4, none, [])
theorem ok_X7_fillTo : zOkV q_X7_fillTo 2 := ⟨⟨List.mem_of_getElem? (i := 991) (by decide +kernel), List.mem_of_getElem? (i := 25) (by decide +kernel), ⟨by decide +kernel, by decide +kernel⟩, by decide +kernel, by decide, rfl⟩, List.mem_of_getElem? (i := 989) (by decide +kernel), List.mem_of_getElem? (i := 990) (by decide +kernel)⟩
abbrev q_X7_init : zY := (yX7_init, cX7_init, 1, none, [])
theorem ok_X7_init : zOkI q_X7_init 0 := ⟨⟨List.mem_of_getElem? (i := 61) (by decide +kernel), List.mem_of_getElem? (i := 25) (by decide +kernel), ⟨by decide +kernel, by decide +kernel⟩, by decide +kernel, by decide, rfl⟩, List.mem_of_getElem? (i := 60) (by decide +kernel), rfl, rfl⟩
abbrev q_X7_size : zY := (yX7_size, cX7_size, 1, (some .int), [])
theorem ok_X7_size : zOkV q_X7_size 0 := ⟨⟨List.mem_of_getElem? (i := 226) (by decide +kernel), List.mem_of_getElem? (i := 25) (by decide +kernel), ⟨by decide +kernel, by decide +kernel⟩, by decide +kernel, by decide, rfl⟩, List.mem_of_getElem? (i := 224) (by decide +kernel), List.mem_of_getElem? (i := 225) (by decide +kernel)⟩
abbrev q_X8_addLetter : zY := (yX8_addLetter, cX8_addLetter, 3, none, [])
theorem ok_X8_addLetter : zOkV q_X8_addLetter 1 := ⟨⟨List.mem_of_getElem? (i := 436) (by decide +kernel), List.mem_of_getElem? (i := 26) (by decide +kernel), ⟨by decide +kernel, by decide +kernel⟩, by decide +kernel, by decide, rfl⟩, List.mem_of_getElem? (i := 434) (by decide +kernel), List.mem_of_getElem? (i := 435) (by decide +kernel)⟩
abbrev q_X8_addTo : zY := (yX8_addTo, cX8_addTo, 8, (some .long), [])
theorem ok_X8_addTo : zOkV q_X8_addTo 1 := ⟨⟨List.mem_of_getElem? (i := 663) (by decide +kernel), List.mem_of_getElem? (i := 26) (by decide +kernel), ⟨by decide +kernel, by decide +kernel⟩, by decide +kernel, by decide, rfl⟩, List.mem_of_getElem? (i := 661) (by decide +kernel), List.mem_of_getElem? (i := 662) (by decide +kernel)⟩
abbrev q_X8_append : zY := (yX8_append, cX8_append, 5, none, [])
theorem ok_X8_append : zOkV q_X8_append 3 := ⟨⟨List.mem_of_getElem? (i := 392) (by decide +kernel), List.mem_of_getElem? (i := 26) (by decide +kernel), ⟨by decide +kernel, by decide +kernel⟩, by decide +kernel, by decide, rfl⟩, List.mem_of_getElem? (i := 390) (by decide +kernel), List.mem_of_getElem? (i := 391) (by decide +kernel)⟩
abbrev q_X8_beginLine : zY := (yX8_beginLine, cX8_beginLine, 2, none, [])
theorem ok_X8_beginLine : zOkV q_X8_beginLine 0 := ⟨⟨List.mem_of_getElem? (i := 432) (by decide +kernel), List.mem_of_getElem? (i := 26) (by decide +kernel), ⟨by decide +kernel, by decide +kernel⟩, by decide +kernel, by decide, rfl⟩, List.mem_of_getElem? (i := 430) (by decide +kernel), List.mem_of_getElem? (i := 431) (by decide +kernel)⟩
abbrev q_X8_chordCount : zY := (yX8_chordCount, cX8_chordCount, 1, (some .int), [])
theorem ok_X8_chordCount : zOkV q_X8_chordCount 0 := ⟨⟨List.mem_of_getElem? (i := 251) (by decide +kernel), List.mem_of_getElem? (i := 26) (by decide +kernel), ⟨by decide +kernel, by decide +kernel⟩, by decide +kernel, by decide, rfl⟩, List.mem_of_getElem? (i := 249) (by decide +kernel), List.mem_of_getElem? (i := 250) (by decide +kernel)⟩
abbrev q_X8_clear : zY := (yX8_clear, cX8_clear, 1, none, [])
theorem ok_X8_clear : zOkV q_X8_clear 0 := ⟨⟨List.mem_of_getElem? (i := 242) (by decide +kernel), List.mem_of_getElem? (i := 26) (by decide +kernel), ⟨by decide +kernel, by decide +kernel⟩, by decide +kernel, by decide, rfl⟩, List.mem_of_getElem? (i := 240) (by decide +kernel), List.mem_of_getElem? (i := 241) (by decide +kernel)⟩
abbrev q_X8_copyFrom : zY := (yX8_copyFrom, cX8_copyFrom, 2, none, [])
theorem ok_X8_copyFrom : zOkV q_X8_copyFrom 1 := ⟨⟨List.mem_of_getElem? (i := 451) (by decide +kernel), List.mem_of_getElem? (i := 26) (by decide +kernel), ⟨by decide +kernel, by decide +kernel⟩, by decide +kernel, by decide, rfl⟩, List.mem_of_getElem? (i := 449) (by decide +kernel), List.mem_of_getElem? (i := 450) (by decide +kernel)⟩
abbrev q_X8_countUpTo : zY := (yX8_countUpTo, cX8_countUpTo, 4, (some .int), [])
theorem ok_X8_countUpTo : zOkV q_X8_countUpTo 2 := ⟨⟨List.mem_of_getElem? (i := 408) (by decide +kernel), List.mem_of_getElem? (i := 26) (by decide +kernel), ⟨by decide +kernel, by decide +kernel⟩, by decide +kernel, by decide, rfl⟩, List.mem_of_getElem? (i := 406) (by decide +kernel), List.mem_of_getElem? (i := 407) (by decide +kernel)⟩
abbrev q_X8_get : zY := (yX8_get, cX8_get, 4, (some .int), [])
theorem ok_X8_get : zOkV q_X8_get 2 := ⟨⟨List.mem_of_getElem? (i := 416) (by decide +kernel), List.mem_of_getElem? (i := 26) (by decide +kernel), ⟨by decide +kernel, by decide +kernel⟩, by decide +kernel, by decide, rfl⟩, List.mem_of_getElem? (i := 414) (by decide +kernel), List.mem_of_getElem? (i := 415) (by decide +kernel)⟩
abbrev q_X8_hasLine : zY := (yX8_hasLine, cX8_hasLine, 2, (some .boolean), [])
theorem ok_X8_hasLine : zOkV q_X8_hasLine 1 := ⟨⟨List.mem_of_getElem? (i := 718) (by decide +kernel), List.mem_of_getElem? (i := 26) (by decide +kernel), ⟨by decide +kernel, by decide +kernel⟩, by decide +kernel, by decide, rfl⟩, List.mem_of_getElem? (i := 716) (by decide +kernel), List.mem_of_getElem? (i := 717) (by decide +kernel)⟩
abbrev q_X8_init : zY := (yX8_init, cX8_init, 1, none, [])
theorem ok_X8_init : zOkI q_X8_init 0 := ⟨⟨List.mem_of_getElem? (i := 75) (by decide +kernel), List.mem_of_getElem? (i := 26) (by decide +kernel), ⟨by decide +kernel, by decide +kernel⟩, by decide +kernel, by decide, rfl⟩, List.mem_of_getElem? (i := 74) (by decide +kernel), rfl, rfl⟩
abbrev q_X8_insert : zY := (yX8_insert, cX8_insert, 8, (some .int), [])
theorem ok_X8_insert : zOkV q_X8_insert 5 := ⟨⟨List.mem_of_getElem? (i := 404) (by decide +kernel), List.mem_of_getElem? (i := 26) (by decide +kernel), ⟨by decide +kernel, by decide +kernel⟩, by decide +kernel, by decide, rfl⟩, List.mem_of_getElem? (i := 402) (by decide +kernel), List.mem_of_getElem? (i := 403) (by decide +kernel)⟩
abbrev q_X8_isAt : zY := (yX8_isAt, cX8_isAt, 4, (some .boolean), [])
theorem ok_X8_isAt : zOkV q_X8_isAt 3 := ⟨⟨List.mem_of_getElem? (i := 987) (by decide +kernel), List.mem_of_getElem? (i := 26) (by decide +kernel), ⟨by decide +kernel, by decide +kernel⟩, by decide +kernel, by decide, rfl⟩, List.mem_of_getElem? (i := 985) (by decide +kernel), List.mem_of_getElem? (i := 986) (by decide +kernel)⟩
abbrev q_X8_isUpTo : zY := (yX8_isUpTo, cX8_isUpTo, 5, (some .boolean), [])
theorem ok_X8_isUpTo : zOkV q_X8_isUpTo 3 := ⟨⟨List.mem_of_getElem? (i := 412) (by decide +kernel), List.mem_of_getElem? (i := 26) (by decide +kernel), ⟨by decide +kernel, by decide +kernel⟩, by decide +kernel, by decide, rfl⟩, List.mem_of_getElem? (i := 411) (by decide +kernel), List.mem_of_getElem? (i := 5) (by decide +kernel)⟩
abbrev q_X8_lengthOf : zY := (yX8_lengthOf, cX8_lengthOf, 2, (some .int), [])
theorem ok_X8_lengthOf : zOkV q_X8_lengthOf 1 := ⟨⟨List.mem_of_getElem? (i := 396) (by decide +kernel), List.mem_of_getElem? (i := 26) (by decide +kernel), ⟨by decide +kernel, by decide +kernel⟩, by decide +kernel, by decide, rfl⟩, List.mem_of_getElem? (i := 394) (by decide +kernel), List.mem_of_getElem? (i := 395) (by decide +kernel)⟩
abbrev q_X8_letterAt : zY := (yX8_letterAt, cX8_letterAt, 5, (some .int), [])
theorem ok_X8_letterAt : zOkV q_X8_letterAt 2 := ⟨⟨List.mem_of_getElem? (i := 668) (by decide +kernel), List.mem_of_getElem? (i := 26) (by decide +kernel), ⟨by decide +kernel, by decide +kernel⟩, by decide +kernel, by decide, rfl⟩, List.mem_of_getElem? (i := 666) (by decide +kernel), List.mem_of_getElem? (i := 667) (by decide +kernel)⟩
abbrev q_X8_lineCount : zY := (yX8_lineCount, cX8_lineCount, 1, (some .int), [])
theorem ok_X8_lineCount : zOkV q_X8_lineCount 0 := ⟨⟨List.mem_of_getElem? (i := 502) (by decide +kernel), List.mem_of_getElem? (i := 26) (by decide +kernel), ⟨by decide +kernel, by decide +kernel⟩, by decide +kernel, by decide, rfl⟩, List.mem_of_getElem? (i := 500) (by decide +kernel), List.mem_of_getElem? (i := 501) (by decide +kernel)⟩
abbrev q_X8_put : zY := (yX8_put, cX8_put, 5, none, [])
theorem ok_X8_put : zOkV q_X8_put 4 := ⟨⟨List.mem_of_getElem? (i := 427) (by decide +kernel), List.mem_of_getElem? (i := 26) (by decide +kernel), ⟨by decide +kernel, by decide +kernel⟩, by decide +kernel, by decide, rfl⟩, List.mem_of_getElem? (i := 425) (by decide +kernel), List.mem_of_getElem? (i := 426) (by decide +kernel)⟩
abbrev q_X8_set : zY := (yX8_set, cX8_set, 5, none, [])
theorem ok_X8_set : zOkV q_X8_set 3 := ⟨⟨List.mem_of_getElem? (i := 423) (by decide +kernel), List.mem_of_getElem? (i := 26) (by decide +kernel), ⟨by decide +kernel, by decide +kernel⟩, by decide +kernel, by decide, rfl⟩, List.mem_of_getElem? (i := 422) (by decide +kernel), List.mem_of_getElem? (i := 6) (by decide +kernel)⟩
abbrev q_X8_spell : zY := (yX8_spell, cX8_spell, 5, (some .int), [])
theorem ok_X8_spell : zOkV q_X8_spell 2 := ⟨⟨List.mem_of_getElem? (i := 518) (by decide +kernel), List.mem_of_getElem? (i := 26) (by decide +kernel), ⟨by decide +kernel, by decide +kernel⟩, by decide +kernel, by decide, rfl⟩, List.mem_of_getElem? (i := 516) (by decide +kernel), List.mem_of_getElem? (i := 517) (by decide +kernel)⟩
abbrev q_X8_spellField : zY := (yX8_spellField, cX8_spellField, 8, (some .int), [])
theorem ok_X8_spellField : zOkV q_X8_spellField 4 := ⟨⟨List.mem_of_getElem? (i := 522) (by decide +kernel), List.mem_of_getElem? (i := 26) (by decide +kernel), ⟨by decide +kernel, by decide +kernel⟩, by decide +kernel, by decide, rfl⟩, List.mem_of_getElem? (i := 521) (by decide +kernel), List.mem_of_getElem? (i := 9) (by decide +kernel)⟩
abbrev q_X8_startOf : zY := (yX8_startOf, cX8_startOf, 2, (some .int), [])
theorem ok_X8_startOf : zOkV q_X8_startOf 1 := ⟨⟨List.mem_of_getElem? (i := 400) (by decide +kernel), List.mem_of_getElem? (i := 26) (by decide +kernel), ⟨by decide +kernel, by decide +kernel⟩, by decide +kernel, by decide, rfl⟩, List.mem_of_getElem? (i := 399) (by decide +kernel), List.mem_of_getElem? (i := 4) (by decide +kernel)⟩
abbrev q_X8_takeOut : zY := (yX8_takeOut, cX8_takeOut, 3, none, [])
theorem ok_X8_takeOut : zOkV q_X8_takeOut 1 := ⟨⟨List.mem_of_getElem? (i := 1031) (by decide +kernel), List.mem_of_getElem? (i := 26) (by decide +kernel), ⟨by decide +kernel, by decide +kernel⟩, by decide +kernel, by decide, rfl⟩, List.mem_of_getElem? (i := 1029) (by decide +kernel), List.mem_of_getElem? (i := 1030) (by decide +kernel)⟩
abbrev q_X8_tonesOf : zY := (yX8_tonesOf, cX8_tonesOf, 5, (some .int), [])
theorem ok_X8_tonesOf : zOkV q_X8_tonesOf 1 := ⟨⟨List.mem_of_getElem? (i := 870) (by decide +kernel), List.mem_of_getElem? (i := 26) (by decide +kernel), ⟨by decide +kernel, by decide +kernel⟩, by decide +kernel, by decide, rfl⟩, List.mem_of_getElem? (i := 868) (by decide +kernel), List.mem_of_getElem? (i := 869) (by decide +kernel)⟩
abbrev q_X8_writeName : zY := (yX8_writeName, cX8_writeName, 4, none, [])
theorem ok_X8_writeName : zOkV q_X8_writeName 2 := ⟨⟨List.mem_of_getElem? (i := 830) (by decide +kernel), List.mem_of_getElem? (i := 26) (by decide +kernel), ⟨by decide +kernel, by decide +kernel⟩, by decide +kernel, by decide, rfl⟩, List.mem_of_getElem? (i := 828) (by decide +kernel), List.mem_of_getElem? (i := 829) (by decide +kernel)⟩
abbrev q_X9_addChord : zY := (yX9_addChord, cX9_addChord, 4, (some .int), [])
theorem ok_X9_addChord : zOkV q_X9_addChord 2 := ⟨⟨List.mem_of_getElem? (i := 710) (by decide +kernel), List.mem_of_getElem? (i := 24) (by decide +kernel), ⟨by decide +kernel, by decide +kernel⟩, by decide +kernel, by decide, rfl⟩, List.mem_of_getElem? (i := 708) (by decide +kernel), List.mem_of_getElem? (i := 709) (by decide +kernel)⟩
abbrev q_X9_bassOf : zY := (yX9_bassOf, cX9_bassOf, 2, (some .int), [])
theorem ok_X9_bassOf : zOkV q_X9_bassOf 1 := ⟨⟨List.mem_of_getElem? (i := 936) (by decide +kernel), List.mem_of_getElem? (i := 24) (by decide +kernel), ⟨by decide +kernel, by decide +kernel⟩, by decide +kernel, by decide, rfl⟩, List.mem_of_getElem? (i := 934) (by decide +kernel), List.mem_of_getElem? (i := 935) (by decide +kernel)⟩
abbrev q_X9_bestCapo : zY := (yX9_bestCapo, cX9_bestCapo, 1, (some .int), [])
theorem ok_X9_bestCapo : zOkV q_X9_bestCapo 0 := ⟨⟨List.mem_of_getElem? (i := 892) (by decide +kernel), List.mem_of_getElem? (i := 24) (by decide +kernel), ⟨by decide +kernel, by decide +kernel⟩, by decide +kernel, by decide, rfl⟩, List.mem_of_getElem? (i := 890) (by decide +kernel), List.mem_of_getElem? (i := 891) (by decide +kernel)⟩
abbrev q_X9_chords : zY := (yX9_chords, cX9_chords, 1, (some .int), [])
theorem ok_X9_chords : zOkV q_X9_chords 0 := ⟨⟨List.mem_of_getElem? (i := 506) (by decide +kernel), List.mem_of_getElem? (i := 24) (by decide +kernel), ⟨by decide +kernel, by decide +kernel⟩, by decide +kernel, by decide, rfl⟩, List.mem_of_getElem? (i := 504) (by decide +kernel), List.mem_of_getElem? (i := 505) (by decide +kernel)⟩
abbrev q_X9_clearText : zY := (yX9_clearText, cX9_clearText, 2, (some .int), [])
theorem ok_X9_clearText : zOkV q_X9_clearText 0 := ⟨⟨List.mem_of_getElem? (i := 222) (by decide +kernel), List.mem_of_getElem? (i := 24) (by decide +kernel), ⟨by decide +kernel, by decide +kernel⟩, by decide +kernel, by decide, rfl⟩, List.mem_of_getElem? (i := 220) (by decide +kernel), List.mem_of_getElem? (i := 221) (by decide +kernel)⟩
abbrev q_X9_columnOf : zY := (yX9_columnOf, cX9_columnOf, 2, (some .int), [])
theorem ok_X9_columnOf : zOkV q_X9_columnOf 1 := ⟨⟨List.mem_of_getElem? (i := 817) (by decide +kernel), List.mem_of_getElem? (i := 24) (by decide +kernel), ⟨by decide +kernel, by decide +kernel⟩, by decide +kernel, by decide, rfl⟩, List.mem_of_getElem? (i := 815) (by decide +kernel), List.mem_of_getElem? (i := 816) (by decide +kernel)⟩
abbrev q_X9_commonTones : zY := (yX9_commonTones, cX9_commonTones, 2, (some .int), [])
theorem ok_X9_commonTones : zOkV q_X9_commonTones 1 := ⟨⟨List.mem_of_getElem? (i := 865) (by decide +kernel), List.mem_of_getElem? (i := 24) (by decide +kernel), ⟨by decide +kernel, by decide +kernel⟩, by decide +kernel, by decide, rfl⟩, List.mem_of_getElem? (i := 863) (by decide +kernel), List.mem_of_getElem? (i := 864) (by decide +kernel)⟩
abbrev q_X9_degree : zY := (yX9_degree, cX9_degree, 3, (some .int), [])
theorem ok_X9_degree : zOkV q_X9_degree 1 := ⟨⟨List.mem_of_getElem? (i := 855) (by decide +kernel), List.mem_of_getElem? (i := 24) (by decide +kernel), ⟨by decide +kernel, by decide +kernel⟩, by decide +kernel, by decide, rfl⟩, List.mem_of_getElem? (i := 853) (by decide +kernel), List.mem_of_getElem? (i := 854) (by decide +kernel)⟩
abbrev q_X9_difficulty : zY := (yX9_difficulty, cX9_difficulty, 2, (some .int), [])
theorem ok_X9_difficulty : zOkV q_X9_difficulty 1 := ⟨⟨List.mem_of_getElem? (i := 914) (by decide +kernel), List.mem_of_getElem? (i := 24) (by decide +kernel), ⟨by decide +kernel, by decide +kernel⟩, by decide +kernel, by decide, rfl⟩, List.mem_of_getElem? (i := 912) (by decide +kernel), List.mem_of_getElem? (i := 913) (by decide +kernel)⟩
abbrev q_X9_findKey : zY := (yX9_findKey, cX9_findKey, 1, (some .int), [])
theorem ok_X9_findKey : zOkV q_X9_findKey 0 := ⟨⟨List.mem_of_getElem? (i := 920) (by decide +kernel), List.mem_of_getElem? (i := 24) (by decide +kernel), ⟨by decide +kernel, by decide +kernel⟩, by decide +kernel, by decide, rfl⟩, List.mem_of_getElem? (i := 918) (by decide +kernel), List.mem_of_getElem? (i := 919) (by decide +kernel)⟩
abbrev q_X9_fingerprint : zY := (yX9_fingerprint, cX9_fingerprint, 3, (some .long), [])
theorem ok_X9_fingerprint : zOkV q_X9_fingerprint 0 := ⟨⟨List.mem_of_getElem? (i := 658) (by decide +kernel), List.mem_of_getElem? (i := 24) (by decide +kernel), ⟨by decide +kernel, by decide +kernel⟩, by decide +kernel, by decide, rfl⟩, List.mem_of_getElem? (i := 656) (by decide +kernel), List.mem_of_getElem? (i := 657) (by decide +kernel)⟩
abbrev q_X9_init : zY := (yX9_init, cX9_init, 1, none, [])
theorem ok_X9_init : zOkI q_X9_init 0 := ⟨⟨List.mem_of_getElem? (i := 53) (by decide +kernel), List.mem_of_getElem? (i := 24) (by decide +kernel), ⟨by decide +kernel, by decide +kernel⟩, by decide +kernel, by decide, rfl⟩, List.mem_of_getElem? (i := 52) (by decide +kernel), rfl, rfl⟩
abbrev q_X9_isMinor : zY := (yX9_isMinor, cX9_isMinor, 1, (some .boolean), [])
theorem ok_X9_isMinor : zOkV q_X9_isMinor 0 := ⟨⟨List.mem_of_getElem? (i := 929) (by decide +kernel), List.mem_of_getElem? (i := 24) (by decide +kernel), ⟨by decide +kernel, by decide +kernel⟩, by decide +kernel, by decide, rfl⟩, List.mem_of_getElem? (i := 927) (by decide +kernel), List.mem_of_getElem? (i := 928) (by decide +kernel)⟩
abbrev q_X9_lineOf : zY := (yX9_lineOf, cX9_lineOf, 2, (some .int), [])
theorem ok_X9_lineOf : zOkV q_X9_lineOf 1 := ⟨⟨List.mem_of_getElem? (i := 813) (by decide +kernel), List.mem_of_getElem? (i := 24) (by decide +kernel), ⟨by decide +kernel, by decide +kernel⟩, by decide +kernel, by decide, rfl⟩, List.mem_of_getElem? (i := 811) (by decide +kernel), List.mem_of_getElem? (i := 812) (by decide +kernel)⟩
abbrev q_X9_lines : zY := (yX9_lines, cX9_lines, 1, (some .int), [])
theorem ok_X9_lines : zOkV q_X9_lines 0 := ⟨⟨List.mem_of_getElem? (i := 498) (by decide +kernel), List.mem_of_getElem? (i := 24) (by decide +kernel), ⟨by decide +kernel, by decide +kernel⟩, by decide +kernel, by decide, rfl⟩, List.mem_of_getElem? (i := 496) (by decide +kernel), List.mem_of_getElem? (i := 497) (by decide +kernel)⟩
abbrev q_X9_lyric : zY := (yX9_lyric, cX9_lyric, 3, (some .int), [])
theorem ok_X9_lyric : zOkV q_X9_lyric 2 := ⟨⟨List.mem_of_getElem? (i := 1015) (by decide +kernel), List.mem_of_getElem? (i := 24) (by decide +kernel), ⟨by decide +kernel, by decide +kernel⟩, by decide +kernel, by decide, rfl⟩, List.mem_of_getElem? (i := 1013) (by decide +kernel), List.mem_of_getElem? (i := 1014) (by decide +kernel)⟩
abbrev q_X9_lyrics : zY := (yX9_lyrics, cX9_lyrics, 2, (some .int), [])
theorem ok_X9_lyrics : zOkV q_X9_lyrics 1 := ⟨⟨List.mem_of_getElem? (i := 747) (by decide +kernel), List.mem_of_getElem? (i := 24) (by decide +kernel), ⟨by decide +kernel, by decide +kernel⟩, by decide +kernel, by decide, rfl⟩, List.mem_of_getElem? (i := 745) (by decide +kernel), List.mem_of_getElem? (i := 746) (by decide +kernel)⟩
abbrev q_X9_moveChord : zY := (yX9_moveChord, cX9_moveChord, 7, (some .int), [])
theorem ok_X9_moveChord : zOkV q_X9_moveChord 2 := ⟨⟨List.mem_of_getElem? (i := 1027) (by decide +kernel), List.mem_of_getElem? (i := 24) (by decide +kernel), ⟨by decide +kernel, by decide +kernel⟩, by decide +kernel, by decide, rfl⟩, List.mem_of_getElem? (i := 1025) (by decide +kernel), List.mem_of_getElem? (i := 1026) (by decide +kernel)⟩
abbrev q_X9_nameChar : zY := (yX9_nameChar, cX9_nameChar, 3, (some .int), [])
theorem ok_X9_nameChar : zOkV q_X9_nameChar 2 := ⟨⟨List.mem_of_getElem? (i := 821) (by decide +kernel), List.mem_of_getElem? (i := 24) (by decide +kernel), ⟨by decide +kernel, by decide +kernel⟩, by decide +kernel, by decide, rfl⟩, List.mem_of_getElem? (i := 819) (by decide +kernel), List.mem_of_getElem? (i := 820) (by decide +kernel)⟩
abbrev q_X9_pairs : zY := (yX9_pairs, cX9_pairs, 2, (some .int), [])
theorem ok_X9_pairs : zOkV q_X9_pairs 1 := ⟨⟨List.mem_of_getElem? (i := 948) (by decide +kernel), List.mem_of_getElem? (i := 24) (by decide +kernel), ⟨by decide +kernel, by decide +kernel⟩, by decide +kernel, by decide, rfl⟩, List.mem_of_getElem? (i := 946) (by decide +kernel), List.mem_of_getElem? (i := 947) (by decide +kernel)⟩
abbrev q_X9_qualityOf : zY := (yX9_qualityOf, cX9_qualityOf, 2, (some .int), [])
theorem ok_X9_qualityOf : zOkV q_X9_qualityOf 1 := ⟨⟨List.mem_of_getElem? (i := 1023) (by decide +kernel), List.mem_of_getElem? (i := 24) (by decide +kernel), ⟨by decide +kernel, by decide +kernel⟩, by decide +kernel, by decide, rfl⟩, List.mem_of_getElem? (i := 1021) (by decide +kernel), List.mem_of_getElem? (i := 1022) (by decide +kernel)⟩
abbrev q_X9_read : zY := (yX9_read, cX9_read, 2, (some .int), [])
theorem ok_X9_read : zOkV q_X9_read 0 := ⟨⟨List.mem_of_getElem? (i := 234) (by decide +kernel), List.mem_of_getElem? (i := 24) (by decide +kernel), ⟨by decide +kernel, by decide +kernel⟩, by decide +kernel, by decide, rfl⟩, List.mem_of_getElem? (i := 232) (by decide +kernel), List.mem_of_getElem? (i := 233) (by decide +kernel)⟩
abbrev q_X9_removeChord : zY := (yX9_removeChord, cX9_removeChord, 2, (some .int), [])
theorem ok_X9_removeChord : zOkV q_X9_removeChord 1 := ⟨⟨List.mem_of_getElem? (i := 1035) (by decide +kernel), List.mem_of_getElem? (i := 24) (by decide +kernel), ⟨by decide +kernel, by decide +kernel⟩, by decide +kernel, by decide, rfl⟩, List.mem_of_getElem? (i := 1033) (by decide +kernel), List.mem_of_getElem? (i := 1034) (by decide +kernel)⟩
abbrev q_X9_requireChord : zY := (yX9_requireChord, cX9_requireChord, 2, none, [])
theorem ok_X9_requireChord : zOkV q_X9_requireChord 1 := ⟨⟨List.mem_of_getElem? (i := 686) (by decide +kernel), List.mem_of_getElem? (i := 24) (by decide +kernel), ⟨by decide +kernel, by decide +kernel⟩, by decide +kernel, by decide, rfl⟩, List.mem_of_getElem? (i := 685) (by decide +kernel), List.mem_of_getElem? (i := 12) (by decide +kernel)⟩
abbrev q_X9_requireChordColumn : zY := (yX9_requireChordColumn, cX9_requireChordColumn, 3, none, [])
theorem ok_X9_requireChordColumn : zOkV q_X9_requireChordColumn 2 := ⟨⟨List.mem_of_getElem? (i := 723) (by decide +kernel), List.mem_of_getElem? (i := 24) (by decide +kernel), ⟨by decide +kernel, by decide +kernel⟩, by decide +kernel, by decide, rfl⟩, List.mem_of_getElem? (i := 722) (by decide +kernel), List.mem_of_getElem? (i := 14) (by decide +kernel)⟩
abbrev q_X9_requireIndex : zY := (yX9_requireIndex, cX9_requireIndex, 2, none, [])
theorem ok_X9_requireIndex : zOkV q_X9_requireIndex 1 := ⟨⟨List.mem_of_getElem? (i := 825) (by decide +kernel), List.mem_of_getElem? (i := 24) (by decide +kernel), ⟨by decide +kernel, by decide +kernel⟩, by decide +kernel, by decide, rfl⟩, List.mem_of_getElem? (i := 824) (by decide +kernel), List.mem_of_getElem? (i := 15) (by decide +kernel)⟩
abbrev q_X9_requireLine : zY := (yX9_requireLine, cX9_requireLine, 2, none, [])
theorem ok_X9_requireLine : zOkV q_X9_requireLine 1 := ⟨⟨List.mem_of_getElem? (i := 714) (by decide +kernel), List.mem_of_getElem? (i := 24) (by decide +kernel), ⟨by decide +kernel, by decide +kernel⟩, by decide +kernel, by decide, rfl⟩, List.mem_of_getElem? (i := 713) (by decide +kernel), List.mem_of_getElem? (i := 13) (by decide +kernel)⟩
abbrev q_X9_requireTonic : zY := (yX9_requireTonic, cX9_requireTonic, 4, none, [])
theorem ok_X9_requireTonic : zOkV q_X9_requireTonic 2 := ⟨⟨List.mem_of_getElem? (i := 635) (by decide +kernel), List.mem_of_getElem? (i := 24) (by decide +kernel), ⟨by decide +kernel, by decide +kernel⟩, by decide +kernel, by decide, rfl⟩, List.mem_of_getElem? (i := 634) (by decide +kernel), List.mem_of_getElem? (i := 11) (by decide +kernel)⟩
abbrev q_X9_respell : zY := (yX9_respell, cX9_respell, 1, (some .int), [])
theorem ok_X9_respell : zOkV q_X9_respell 0 := ⟨⟨List.mem_of_getElem? (i := 514) (by decide +kernel), List.mem_of_getElem? (i := 24) (by decide +kernel), ⟨by decide +kernel, by decide +kernel⟩, by decide +kernel, by decide, rfl⟩, List.mem_of_getElem? (i := 512) (by decide +kernel), List.mem_of_getElem? (i := 513) (by decide +kernel)⟩
abbrev q_X9_rootOf : zY := (yX9_rootOf, cX9_rootOf, 2, (some .int), [])
theorem ok_X9_rootOf : zOkV q_X9_rootOf 1 := ⟨⟨List.mem_of_getElem? (i := 682) (by decide +kernel), List.mem_of_getElem? (i := 24) (by decide +kernel), ⟨by decide +kernel, by decide +kernel⟩, by decide +kernel, by decide, rfl⟩, List.mem_of_getElem? (i := 680) (by decide +kernel), List.mem_of_getElem? (i := 681) (by decide +kernel)⟩
abbrev q_X9_rowChar : zY := (yX9_rowChar, cX9_rowChar, 6, (some .int), [])
theorem ok_X9_rowChar : zOkV q_X9_rowChar 4 := ⟨⟨List.mem_of_getElem? (i := 1011) (by decide +kernel), List.mem_of_getElem? (i := 24) (by decide +kernel), ⟨by decide +kernel, by decide +kernel⟩, by decide +kernel, by decide, rfl⟩, List.mem_of_getElem? (i := 1009) (by decide +kernel), List.mem_of_getElem? (i := 1010) (by decide +kernel)⟩
abbrev q_X9_rowLength : zY := (yX9_rowLength, cX9_rowLength, 5, (some .int), [])
theorem ok_X9_rowLength : zOkV q_X9_rowLength 3 := ⟨⟨List.mem_of_getElem? (i := 1001) (by decide +kernel), List.mem_of_getElem? (i := 24) (by decide +kernel), ⟨by decide +kernel, by decide +kernel⟩, by decide +kernel, by decide, rfl⟩, List.mem_of_getElem? (i := 999) (by decide +kernel), List.mem_of_getElem? (i := 1000) (by decide +kernel)⟩
abbrev q_X9_score : zY := (yX9_score, cX9_score, 3, (some .int), [])
theorem ok_X9_score : zOkV q_X9_score 2 := ⟨⟨List.mem_of_getElem? (i := 924) (by decide +kernel), List.mem_of_getElem? (i := 24) (by decide +kernel), ⟨by decide +kernel, by decide +kernel⟩, by decide +kernel, by decide, rfl⟩, List.mem_of_getElem? (i := 922) (by decide +kernel), List.mem_of_getElem? (i := 923) (by decide +kernel)⟩
abbrev q_X9_setFlats : zY := (yX9_setFlats, cX9_setFlats, 3, (some .boolean), [])
theorem ok_X9_setFlats : zOkV q_X9_setFlats 1 := ⟨⟨List.mem_of_getElem? (i := 494) (by decide +kernel), List.mem_of_getElem? (i := 24) (by decide +kernel), ⟨by decide +kernel, by decide +kernel⟩, by decide +kernel, by decide, rfl⟩, List.mem_of_getElem? (i := 492) (by decide +kernel), List.mem_of_getElem? (i := 493) (by decide +kernel)⟩
abbrev q_X9_setKey : zY := (yX9_setKey, cX9_setKey, 4, (some .int), [])
theorem ok_X9_setKey : zOkV q_X9_setKey 2 := ⟨⟨List.mem_of_getElem? (i := 631) (by decide +kernel), List.mem_of_getElem? (i := 24) (by decide +kernel), ⟨by decide +kernel, by decide +kernel⟩, by decide +kernel, by decide, rfl⟩, List.mem_of_getElem? (i := 629) (by decide +kernel), List.mem_of_getElem? (i := 630) (by decide +kernel)⟩
abbrev q_X9_setSimple : zY := (yX9_setSimple, cX9_setSimple, 3, (some .boolean), [])
theorem ok_X9_setSimple : zOkV q_X9_setSimple 1 := ⟨⟨List.mem_of_getElem? (i := 490) (by decide +kernel), List.mem_of_getElem? (i := 24) (by decide +kernel), ⟨by decide +kernel, by decide +kernel⟩, by decide +kernel, by decide, rfl⟩, List.mem_of_getElem? (i := 488) (by decide +kernel), List.mem_of_getElem? (i := 489) (by decide +kernel)⟩
abbrev q_X9_setWidth : zY := (yX9_setWidth, cX9_setWidth, 3, (some .int), [])
theorem ok_X9_setWidth : zOkV q_X9_setWidth 1 := ⟨⟨List.mem_of_getElem? (i := 943) (by decide +kernel), List.mem_of_getElem? (i := 24) (by decide +kernel), ⟨by decide +kernel, by decide +kernel⟩, by decide +kernel, by decide, rfl⟩, List.mem_of_getElem? (i := 941) (by decide +kernel), List.mem_of_getElem? (i := 942) (by decide +kernel)⟩
abbrev q_X9_signature : zY := (yX9_signature, cX9_signature, 1, (some .int), [])
theorem ok_X9_signature : zOkV q_X9_signature 0 := ⟨⟨List.mem_of_getElem? (i := 510) (by decide +kernel), List.mem_of_getElem? (i := 24) (by decide +kernel), ⟨by decide +kernel, by decide +kernel⟩, by decide +kernel, by decide, rfl⟩, List.mem_of_getElem? (i := 508) (by decide +kernel), List.mem_of_getElem? (i := 509) (by decide +kernel)⟩
abbrev q_X9_takeKey : zY := (yX9_takeKey, cX9_takeKey, 4, none, [])
theorem ok_X9_takeKey : zOkV q_X9_takeKey 1 := ⟨⟨List.mem_of_getElem? (i := 481) (by decide +kernel), List.mem_of_getElem? (i := 24) (by decide +kernel), ⟨by decide +kernel, by decide +kernel⟩, by decide +kernel, by decide, rfl⟩, List.mem_of_getElem? (i := 480) (by decide +kernel), List.mem_of_getElem? (i := 8) (by decide +kernel)⟩
abbrev q_X9_tonic : zY := (yX9_tonic, cX9_tonic, 1, (some .int), [])
theorem ok_X9_tonic : zOkV q_X9_tonic 0 := ⟨⟨List.mem_of_getElem? (i := 673) (by decide +kernel), List.mem_of_getElem? (i := 24) (by decide +kernel), ⟨by decide +kernel, by decide +kernel⟩, by decide +kernel, by decide, rfl⟩, List.mem_of_getElem? (i := 671) (by decide +kernel), List.mem_of_getElem? (i := 672) (by decide +kernel)⟩
abbrev q_X9_transpose : zY := (yX9_transpose, cX9_transpose, 3, (some .int), [])
theorem ok_X9_transpose : zOkV q_X9_transpose 1 := ⟨⟨List.mem_of_getElem? (i := 754) (by decide +kernel), List.mem_of_getElem? (i := 24) (by decide +kernel), ⟨by decide +kernel, by decide +kernel⟩, by decide +kernel, by decide, rfl⟩, List.mem_of_getElem? (i := 752) (by decide +kernel), List.mem_of_getElem? (i := 753) (by decide +kernel)⟩
abbrev q_X9_type : zY := (yX9_type, cX9_type, 2, (some .int), [])
theorem ok_X9_type : zOkV q_X9_type 1 := ⟨⟨List.mem_of_getElem? (i := 767) (by decide +kernel), List.mem_of_getElem? (i := 24) (by decide +kernel), ⟨by decide +kernel, by decide +kernel⟩, by decide +kernel, by decide, rfl⟩, List.mem_of_getElem? (i := 765) (by decide +kernel), List.mem_of_getElem? (i := 766) (by decide +kernel)⟩
abbrev q_X9_undo : zY := (yX9_undo, cX9_undo, 1, (some .int), [])
theorem ok_X9_undo : zOkV q_X9_undo 0 := ⟨⟨List.mem_of_getElem? (i := 548) (by decide +kernel), List.mem_of_getElem? (i := 24) (by decide +kernel), ⟨by decide +kernel, by decide +kernel⟩, by decide +kernel, by decide, rfl⟩, List.mem_of_getElem? (i := 546) (by decide +kernel), List.mem_of_getElem? (i := 547) (by decide +kernel)⟩
theorem lm_J0_492 : Cond.methodLink RJ0 492 yJ0_isLatin1_aae02 ∈ lw_tbl := List.mem_of_getElem? (i := 272) (by decide +kernel)
theorem lk_J0_9 : Cond.fieldLink RJ0 9 "java/lang/String" "value" "[B" ∈ lw_tbl := List.mem_of_getElem? (i := 1038) (by decide +kernel)
theorem lm_J0_495 : Cond.methodLink RJ0 495 yJ1_charAt_3b067 ∈ lw_tbl := List.mem_of_getElem? (i := 373) (by decide +kernel)
theorem lm_J0_498 : Cond.methodLink RJ0 498 yJ2_charAt_3b067 ∈ lw_tbl := List.mem_of_getElem? (i := 382) (by decide +kernel)
theorem lk_J0_1053 : Cond.fieldLink RJ0 1053 "jdk/internal/util/Preconditions" "SIOOBE_FORMATTER" "Ljava/util/function/BiFunction;" ∈ lw_tbl := List.mem_of_getElem? (i := 319) (by decide +kernel)
theorem lm_J0_1062 : Cond.methodLink RJ0 1062 yJ3_checkFromToIndex_8c36e ∈ lw_tbl := List.mem_of_getElem? (i := 321) (by decide +kernel)
theorem lm_J0_1059 : Cond.methodLink RJ0 1059 yJ3_checkIndex_8e157 ∈ lw_tbl := List.mem_of_getElem? (i := 379) (by decide +kernel)
theorem lk_J0_38 : Cond.fieldLink RJ0 38 "java/lang/String" "COMPACT_STRINGS" "Z" ∈ lw_tbl := List.mem_of_getElem? (i := 276) (by decide +kernel)
theorem lk_J0_15 : Cond.fieldLink RJ0 15 "java/lang/String" "coder" "B" ∈ lw_tbl := List.mem_of_getElem? (i := 1037) (by decide +kernel)
theorem lm_J0_633 : Cond.methodLink RJ0 633 yJ0_indexOf_7cf53 ∈ lw_tbl := List.mem_of_getElem? (i := 268) (by decide +kernel)
theorem lm_J0_505 : Cond.methodLink RJ0 505 yJ0_length_8abf5 ∈ lw_tbl := List.mem_of_getElem? (i := 278) (by decide +kernel)
theorem lm_J0_637 : Cond.methodLink RJ0 637 yJ1_indexOf_4cfef ∈ lw_tbl := List.mem_of_getElem? (i := 286) (by decide +kernel)
theorem lm_J0_640 : Cond.methodLink RJ0 640 yJ2_indexOf_4cfef ∈ lw_tbl := List.mem_of_getElem? (i := 301) (by decide +kernel)
theorem lm_J0_335 : Cond.methodLink RJ0 335 yJ0_coder_7d493 ∈ lw_tbl := List.mem_of_getElem? (i := 282) (by decide +kernel)
theorem lm_J1_9 : Cond.methodLink RJ1 9 yJ0_checkIndex_df160 ∈ lw_tbl := List.mem_of_getElem? (i := 376) (by decide +kernel)
theorem lm_J1_88 : Cond.methodLink RJ1 88 yJ1_canEncode_9a6ad ∈ lw_tbl := List.mem_of_getElem? (i := 289) (by decide +kernel)
theorem lm_J1_92 : Cond.methodLink RJ1 92 yJ9_max_7cf53 ∈ lw_tbl := List.mem_of_getElem? (i := 292) (by decide +kernel)
theorem lm_J1_38 : Cond.methodLink RJ1 38 yJ9_min_7cf53 ∈ lw_tbl := List.mem_of_getElem? (i := 295) (by decide +kernel)
theorem lm_J1_95 : Cond.methodLink RJ1 95 yJ1_indexOfChar_4cfef ∈ lw_tbl := List.mem_of_getElem? (i := 298) (by decide +kernel)
theorem lm_J2_67 : Cond.methodLink RJ2 67 yJ2_checkIndex_2214a ∈ lw_tbl := List.mem_of_getElem? (i := 385) (by decide +kernel)
theorem lm_J2_71 : Cond.methodLink RJ2 71 yJ2_getChar_3b067 ∈ lw_tbl := List.mem_of_getElem? (i := 327) (by decide +kernel)
theorem lm_J2_48 : Cond.methodLink RJ2 48 yJ2_length_9d52b ∈ lw_tbl := List.mem_of_getElem? (i := 313) (by decide +kernel)
theorem lm_J2_241 : Cond.methodLink RJ2 241 yJ0_checkBoundsBeginEnd_23922 ∈ lw_tbl := List.mem_of_getElem? (i := 316) (by decide +kernel)
theorem lm_J2_414 : Cond.methodLink RJ2 414 yJ0_checkIndex_df160 ∈ lw_tbl := List.mem_of_getElem? (i := 388) (by decide +kernel)
theorem lk_J2_44 : Cond.fieldLink RJ2 44 "java/lang/StringUTF16" "$assertionsDisabled" "Z" ∈ lw_tbl := List.mem_of_getElem? (i := 330) (by decide +kernel)
theorem lk_J2_59 : Cond.fieldLink RJ2 59 "java/lang/StringUTF16" "HI_BYTE_SHIFT" "I" ∈ lw_tbl := List.mem_of_getElem? (i := 332) (by decide +kernel)
theorem lk_J2_63 : Cond.fieldLink RJ2 63 "java/lang/StringUTF16" "LO_BYTE_SHIFT" "I" ∈ lw_tbl := List.mem_of_getElem? (i := 334) (by decide +kernel)
theorem lm_J2_96 : Cond.methodLink RJ2 96 yJ2_checkBoundsBeginEnd_d044e ∈ lw_tbl := List.mem_of_getElem? (i := 310) (by decide +kernel)
theorem lm_J2_244 : Cond.methodLink RJ2 244 yJ2_indexOfCharUnsafe_4cfef ∈ lw_tbl := List.mem_of_getElem? (i := 324) (by decide +kernel)
theorem lm_J2_164 : Cond.methodLink RJ2 164 yJ11_isValidCodePoint_9a6ad ∈ lw_tbl := List.mem_of_getElem? (i := 339) (by decide +kernel)
theorem lm_J2_157 : Cond.methodLink RJ2 157 yJ11_highSurrogate_5068e ∈ lw_tbl := List.mem_of_getElem? (i := 342) (by decide +kernel)
theorem lm_J2_161 : Cond.methodLink RJ2 161 yJ11_lowSurrogate_5068e ∈ lw_tbl := List.mem_of_getElem? (i := 346) (by decide +kernel)
theorem lm_J2_224 : Cond.methodLink RJ2 224 yJ9_max_7cf53 ∈ lw_tbl := List.mem_of_getElem? (i := 304) (by decide +kernel)
theorem lm_J2_183 : Cond.methodLink RJ2 183 yJ9_min_7cf53 ∈ lw_tbl := List.mem_of_getElem? (i := 305) (by decide +kernel)
theorem lm_J2_228 : Cond.methodLink RJ2 228 yJ2_indexOfChar_4cfef ∈ lw_tbl := List.mem_of_getElem? (i := 307) (by decide +kernel)
theorem lm_J2_232 : Cond.methodLink RJ2 232 yJ2_indexOfSupplementary_4cfef ∈ lw_tbl := List.mem_of_getElem? (i := 336) (by decide +kernel)
theorem lm_L_68 : Cond.methodLink RL 68 yX9_addChord ∈ lw_tbl := List.mem_of_getElem? (i := 707) (by decide +kernel)
theorem lm_L_38 : Cond.methodLink RL 38 yL_up ∈ lw_tbl := List.mem_of_getElem? (i := 537) (by decide +kernel)
theorem lm_L_96 : Cond.methodLink RL 96 yX9_lines ∈ lw_tbl := List.mem_of_getElem? (i := 495) (by decide +kernel)
theorem lm_L_103 : Cond.methodLink RL 103 yX9_lyrics ∈ lw_tbl := List.mem_of_getElem? (i := 744) (by decide +kernel)
theorem lm_L_90 : Cond.methodLink RL 90 yX9_chords ∈ lw_tbl := List.mem_of_getElem? (i := 503) (by decide +kernel)
theorem lm_L_86 : Cond.methodLink RL 86 yX9_fingerprint ∈ lw_tbl := List.mem_of_getElem? (i := 655) (by decide +kernel)
theorem lm_L_117 : Cond.methodLink RL 117 yL_chord ∈ lw_tbl := List.mem_of_getElem? (i := 774) (by decide +kernel)
theorem lm_L_99 : Cond.methodLink RL 99 yL_added ∈ lw_tbl := List.mem_of_getElem? (i := 704) (by decide +kernel)
theorem lm_L_187 : Cond.methodLink RL 187 yX9_clearText ∈ lw_tbl := List.mem_of_getElem? (i := 219) (by decide +kernel)
theorem lm_L_123 : Cond.methodLink RL 123 yX9_columnOf ∈ lw_tbl := List.mem_of_getElem? (i := 814) (by decide +kernel)
theorem lm_L_63 : Cond.methodLink RL 63 yX9_rootOf ∈ lw_tbl := List.mem_of_getElem? (i := 679) (by decide +kernel)
theorem lm_L_42 : Cond.methodLink RL 42 yL_rootBy ∈ lw_tbl := List.mem_of_getElem? (i := 777) (by decide +kernel)
theorem lm_L_190 : Cond.methodLink RL 190 yX9_qualityOf ∈ lw_tbl := List.mem_of_getElem? (i := 1020) (by decide +kernel)
theorem lm_L_49 : Cond.methodLink RL 49 yL_qualityBy ∈ lw_tbl := List.mem_of_getElem? (i := 786) (by decide +kernel)
theorem lm_L_160 : Cond.methodLink RL 160 yX9_bassOf ∈ lw_tbl := List.mem_of_getElem? (i := 933) (by decide +kernel)
theorem lm_L_60 : Cond.methodLink RL 60 yL_bassBy ∈ lw_tbl := List.mem_of_getElem? (i := 804) (by decide +kernel)
theorem lm_L_193 : Cond.methodLink RL 193 yX9_moveChord ∈ lw_tbl := List.mem_of_getElem? (i := 1024) (by decide +kernel)
theorem lm_L_196 : Cond.methodLink RL 196 yX9_removeChord ∈ lw_tbl := List.mem_of_getElem? (i := 1032) (by decide +kernel)
theorem lm_L_45 : Cond.methodLink RL 45 yL_note ∈ lw_tbl := List.mem_of_getElem? (i := 780) (by decide +kernel)
theorem lm_L_52 : Cond.methodLink RL 52 yL_quality ∈ lw_tbl := List.mem_of_getElem? (i := 789) (by decide +kernel)
theorem lm_L_56 : Cond.methodLink RL 56 yL_word ∈ lw_tbl := List.mem_of_getElem? (i := 801) (by decide +kernel)
theorem lm_L_15 : Cond.methodLink RL 15 yX9_type ∈ lw_tbl := List.mem_of_getElem? (i := 764) (by decide +kernel)
theorem lm_L_120 : Cond.methodLink RL 120 yX9_lineOf ∈ lw_tbl := List.mem_of_getElem? (i := 810) (by decide +kernel)
theorem lm_L_126 : Cond.methodLink RL 126 yX9_nameChar ∈ lw_tbl := List.mem_of_getElem? (i := 818) (by decide +kernel)
theorem lm_L_129 : Cond.methodLink RL 129 yX9_degree ∈ lw_tbl := List.mem_of_getElem? (i := 852) (by decide +kernel)
theorem lm_L_132 : Cond.methodLink RL 132 yX9_commonTones ∈ lw_tbl := List.mem_of_getElem? (i := 862) (by decide +kernel)
theorem lm_L_135 : Cond.methodLink RL 135 yL_pitch ∈ lw_tbl := List.mem_of_getElem? (i := 885) (by decide +kernel)
theorem lm_L_138 : Cond.methodLink RL 138 yX9_tonic ∈ lw_tbl := List.mem_of_getElem? (i := 888) (by decide +kernel)
theorem lm_L_141 : Cond.methodLink RL 141 yX9_bestCapo ∈ lw_tbl := List.mem_of_getElem? (i := 889) (by decide +kernel)
theorem lm_L_144 : Cond.methodLink RL 144 yX9_difficulty ∈ lw_tbl := List.mem_of_getElem? (i := 911) (by decide +kernel)
theorem lm_L_147 : Cond.methodLink RL 147 yX9_findKey ∈ lw_tbl := List.mem_of_getElem? (i := 917) (by decide +kernel)
theorem lm_L_150 : Cond.methodLink RL 150 yX9_score ∈ lw_tbl := List.mem_of_getElem? (i := 921) (by decide +kernel)
theorem lm_L_153 : Cond.methodLink RL 153 yX9_signature ∈ lw_tbl := List.mem_of_getElem? (i := 507) (by decide +kernel)
theorem lm_L_156 : Cond.methodLink RL 156 yX9_isMinor ∈ lw_tbl := List.mem_of_getElem? (i := 926) (by decide +kernel)
theorem lm_L_93 : Cond.methodLink RL 93 yL_told ∈ lw_tbl := List.mem_of_getElem? (i := 675) (by decide +kernel)
theorem lm_L_106 : Cond.methodLink RL 106 yL_transposed ∈ lw_tbl := List.mem_of_getElem? (i := 748) (by decide +kernel)
theorem lm_L_109 : Cond.methodLink RL 109 yL_key ∈ lw_tbl := List.mem_of_getElem? (i := 624) (by decide +kernel)
theorem lm_L_82 : Cond.methodLink RL 82 yX9_setKey ∈ lw_tbl := List.mem_of_getElem? (i := 628) (by decide +kernel)
theorem lm_L_199 : Cond.methodLink RL 199 yX9_init ∈ lw_tbl := List.mem_of_getElem? (i := 51) (by decide +kernel)
theorem lm_L_166 : Cond.methodLink RL 166 yL_undone ∈ lw_tbl := List.mem_of_getElem? (i := 541) (by decide +kernel)
theorem lm_L_200 : Cond.methodLink RL 200 yL_fails ∈ lw_tbl := List.mem_of_getElem? (i := 652) (by decide +kernel)
theorem lm_L_204 : Cond.methodLink RL 204 yL_sheet ∈ lw_tbl := List.mem_of_getElem? (i := 761) (by decide +kernel)
theorem lm_L_208 : Cond.methodLink RL 208 yX9_read ∈ lw_tbl := List.mem_of_getElem? (i := 231) (by decide +kernel)
theorem lm_L_211 : Cond.methodLink RL 211 yL_chords ∈ lw_tbl := List.mem_of_getElem? (i := 807) (by decide +kernel)
theorem lm_L_113 : Cond.methodLink RL 113 yL_cell ∈ lw_tbl := List.mem_of_getElem? (i := 533) (by decide +kernel)
theorem lm_L_213 : Cond.methodLink RL 213 yX9_setSimple ∈ lw_tbl := List.mem_of_getElem? (i := 487) (by decide +kernel)
theorem lm_L_217 : Cond.methodLink RL 217 yX9_setFlats ∈ lw_tbl := List.mem_of_getElem? (i := 491) (by decide +kernel)
theorem lm_L_220 : Cond.methodLink RL 220 yL_rows ∈ lw_tbl := List.mem_of_getElem? (i := 937) (by decide +kernel)
theorem lm_L_224 : Cond.methodLink RL 224 yL_changes ∈ lw_tbl := List.mem_of_getElem? (i := 1017) (by decide +kernel)
theorem lm_L_227 : Cond.methodLink RL 227 yL_transposes ∈ lw_tbl := List.mem_of_getElem? (i := 930) (by decide +kernel)
theorem lm_L_163 : Cond.methodLink RL 163 yX9_respell ∈ lw_tbl := List.mem_of_getElem? (i := 511) (by decide +kernel)
theorem lm_L_9 : Cond.methodLink RL 9 yL_letter ∈ lw_tbl := List.mem_of_getElem? (i := 783) (by decide +kernel)
theorem lm_L_170 : Cond.methodLink RL 170 yX9_setWidth ∈ lw_tbl := List.mem_of_getElem? (i := 940) (by decide +kernel)
theorem lm_L_173 : Cond.methodLink RL 173 yX9_pairs ∈ lw_tbl := List.mem_of_getElem? (i := 945) (by decide +kernel)
theorem lm_L_176 : Cond.methodLink RL 176 yX9_rowLength ∈ lw_tbl := List.mem_of_getElem? (i := 998) (by decide +kernel)
theorem lm_L_180 : Cond.methodLink RL 180 yX9_rowChar ∈ lw_tbl := List.mem_of_getElem? (i := 1008) (by decide +kernel)
theorem lm_L_184 : Cond.methodLink RL 184 yX9_lyric ∈ lw_tbl := List.mem_of_getElem? (i := 1012) (by decide +kernel)
theorem lm_L_73 : Cond.methodLink RL 73 yX9_transpose ∈ lw_tbl := List.mem_of_getElem? (i := 751) (by decide +kernel)
theorem lm_L_78 : Cond.methodLink RL 78 yX9_undo ∈ lw_tbl := List.mem_of_getElem? (i := 545) (by decide +kernel)
theorem lm_X0_9 : Cond.methodLink RX0 9 yX8_chordCount ∈ lw_tbl := List.mem_of_getElem? (i := 899) (by decide +kernel)
theorem lm_X0_15 : Cond.methodLink RX0 15 yX8_get ∈ lw_tbl := List.mem_of_getElem? (i := 900) (by decide +kernel)
theorem lm_X0_19 : Cond.methodLink RX0 19 yX4_raised ∈ lw_tbl := List.mem_of_getElem? (i := 901) (by decide +kernel)
theorem lm_X0_24 : Cond.methodLink RX0 24 yX5_at ∈ lw_tbl := List.mem_of_getElem? (i := 902) (by decide +kernel)
theorem lm_X0_30 : Cond.methodLink RX0 30 yX5_isEasyOn ∈ lw_tbl := List.mem_of_getElem? (i := 903) (by decide +kernel)
theorem lm_X0_34 : Cond.methodLink RX0 34 yX0_shapeDifficulty ∈ lw_tbl := List.mem_of_getElem? (i := 907) (by decide +kernel)
theorem lm_X0_40 : Cond.methodLink RX0 40 yX0_difficultyAt ∈ lw_tbl := List.mem_of_getElem? (i := 896) (by decide +kernel)
theorem lm_X0_44 : Cond.methodLink RX0 44 yX4_pitchClass ∈ lw_tbl := List.mem_of_getElem? (i := 910) (by decide +kernel)
theorem lk_X1_11 : Cond.fieldLink RX1 11 "ChordSheet$History" "states" "[LChordSheet$Sheet;" ∈ lw_tbl := List.mem_of_getElem? (i := 111) (by decide +kernel)
theorem lm_X1_17 : Cond.methodLinkNest RX1 17 yX8_init "ChordSheet" ∈ lw_tbl := List.mem_of_getElem? (i := 110) (by decide +kernel)
theorem lk_X1_18 : Cond.fieldLink RX1 18 "ChordSheet$History" "count" "I" ∈ lw_tbl := List.mem_of_getElem? (i := 113) (by decide +kernel)
theorem lm_X1_22 : Cond.methodLink RX1 22 yX1_stateAt ∈ lw_tbl := List.mem_of_getElem? (i := 441) (by decide +kernel)
theorem lm_X1_26 : Cond.methodLink RX1 26 yX8_copyFrom ∈ lw_tbl := List.mem_of_getElem? (i := 448) (by decide +kernel)
theorem lk_X1_30 : Cond.fieldLink RX1 30 "ChordSheet$History" "oldest" "I" ∈ lw_tbl := List.mem_of_getElem? (i := 112) (by decide +kernel)
theorem lm_X1_33 : Cond.methodLink RX1 33 yJ9_floorMod_7cf53 ∈ lw_tbl := List.mem_of_getElem? (i := 445) (by decide +kernel)
theorem lm_X2_59 : Cond.methodLink RX2 59 yX2_bestSignature ∈ lw_tbl := List.mem_of_getElem? (i := 456) (by decide +kernel)
theorem lm_X2_63 : Cond.methodLink RX2 63 yX2_scoreOf ∈ lw_tbl := List.mem_of_getElem? (i := 459) (by decide +kernel)
theorem lm_X2_11 : Cond.methodLink RX2 11 yX2_tonicOf ∈ lw_tbl := List.mem_of_getElem? (i := 462) (by decide +kernel)
theorem lm_X2_24 : Cond.methodLink RX2 24 yX2_isInScale ∈ lw_tbl := List.mem_of_getElem? (i := 471) (by decide +kernel)
theorem lm_X2_28 : Cond.methodLink RX2 28 yX4_pitchClass ∈ lw_tbl := List.mem_of_getElem? (i := 465) (by decide +kernel)
theorem lm_X2_32 : Cond.methodLink RX2 32 yJ9_floorMod_7cf53 ∈ lw_tbl := List.mem_of_getElem? (i := 860) (by decide +kernel)
theorem lm_X2_37 : Cond.methodLink RX2 37 yX4_raised ∈ lw_tbl := List.mem_of_getElem? (i := 861) (by decide +kernel)
theorem lm_X2_15 : Cond.methodLink RX2 15 yX4_placeFrom ∈ lw_tbl := List.mem_of_getElem? (i := 474) (by decide +kernel)
theorem lm_X2_40 : Cond.methodLink RX2 40 yX8_chordCount ∈ lw_tbl := List.mem_of_getElem? (i := 469) (by decide +kernel)
theorem lm_X2_46 : Cond.methodLink RX2 46 yX8_get ∈ lw_tbl := List.mem_of_getElem? (i := 470) (by decide +kernel)
theorem lm_X2_49 : Cond.methodLink RX2 49 yX5_at ∈ lw_tbl := List.mem_of_getElem? (i := 477) (by decide +kernel)
theorem lk_X2_55 : Cond.fieldLinkNest RX2 55 "ChordSheet$Quality" "minor" "Z" "ChordSheet" ∈ lw_tbl := List.mem_of_getElem? (i := 1040) (by decide +kernel)
theorem lm_X2_21 : Cond.methodLink RX2 21 yX2_signatureOf ∈ lw_tbl := List.mem_of_getElem? (i := 760) (by decide +kernel)
theorem lm_X3_25 : Cond.methodLink RX3 25 yX3_start ∈ lw_tbl := List.mem_of_getElem? (i := 953) (by decide +kernel)
theorem lm_X3_29 : Cond.methodLink RX3 29 yX3_layNext ∈ lw_tbl := List.mem_of_getElem? (i := 958) (by decide +kernel)
theorem lk_X3_12 : Cond.fieldLink RX3 12 "ChordSheet$Layout" "chordRow" "LChordSheet$Row;" ∈ lw_tbl := List.mem_of_getElem? (i := 155) (by decide +kernel)
theorem lk_X3_101 : Cond.fieldLink RX3 101 "ChordSheet$Layout" "endChordSize" "I" ∈ lw_tbl := List.mem_of_getElem? (i := 163) (by decide +kernel)
theorem lm_X3_71 : Cond.methodLink RX3 71 yX7_cutTo ∈ lw_tbl := List.mem_of_getElem? (i := 964) (by decide +kernel)
theorem lk_X3_18 : Cond.fieldLink RX3 18 "ChordSheet$Layout" "lyricRow" "LChordSheet$Row;" ∈ lw_tbl := List.mem_of_getElem? (i := 156) (by decide +kernel)
theorem lk_X3_104 : Cond.fieldLink RX3 104 "ChordSheet$Layout" "endLyricSize" "I" ∈ lw_tbl := List.mem_of_getElem? (i := 164) (by decide +kernel)
theorem lk_X3_21 : Cond.fieldLink RX3 21 "ChordSheet$Layout" "sheet" "LChordSheet$Sheet;" ∈ lw_tbl := List.mem_of_getElem? (i := 154) (by decide +kernel)
theorem lm_X3_33 : Cond.methodLink RX3 33 yX8_hasLine ∈ lw_tbl := List.mem_of_getElem? (i := 1006) (by decide +kernel)
theorem lm_X3_11 : Cond.methodLinkNest RX3 11 yX7_init "ChordSheet" ∈ lw_tbl := List.mem_of_getElem? (i := 153) (by decide +kernel)
theorem lk_X3_65 : Cond.fieldLink RX3 65 "ChordSheet$Layout" "begin" "I" ∈ lw_tbl := List.mem_of_getElem? (i := 159) (by decide +kernel)
theorem lm_X3_94 : Cond.methodLink RX3 94 yX3_isLetter ∈ lw_tbl := List.mem_of_getElem? (i := 969) (by decide +kernel)
theorem lk_X3_39 : Cond.fieldLink RX3 39 "ChordSheet$Layout" "line" "I" ∈ lw_tbl := List.mem_of_getElem? (i := 157) (by decide +kernel)
theorem lm_X3_84 : Cond.methodLink RX3 84 yX8_letterAt ∈ lw_tbl := List.mem_of_getElem? (i := 973) (by decide +kernel)
theorem lm_X3_56 : Cond.methodLink RX3 56 yX8_lengthOf ∈ lw_tbl := List.mem_of_getElem? (i := 962) (by decide +kernel)
theorem lk_X3_46 : Cond.fieldLink RX3 46 "ChordSheet$Layout" "end" "I" ∈ lw_tbl := List.mem_of_getElem? (i := 161) (by decide +kernel)
theorem lm_X3_60 : Cond.methodLink RX3 60 yJ9_max_7cf53 ∈ lw_tbl := List.mem_of_getElem? (i := 963) (by decide +kernel)
theorem lk_X3_53 : Cond.fieldLink RX3 53 "ChordSheet$Layout" "endChord" "I" ∈ lw_tbl := List.mem_of_getElem? (i := 162) (by decide +kernel)
theorem lk_X3_68 : Cond.fieldLink RX3 68 "ChordSheet$Layout" "chord" "I" ∈ lw_tbl := List.mem_of_getElem? (i := 160) (by decide +kernel)
theorem lm_X3_75 : Cond.methodLink RX3 75 yX3_isInnerBreak ∈ lw_tbl := List.mem_of_getElem? (i := 965) (by decide +kernel)
theorem lm_X3_78 : Cond.methodLink RX3 78 yX3_offerEnd ∈ lw_tbl := List.mem_of_getElem? (i := 974) (by decide +kernel)
theorem lm_X3_81 : Cond.methodLink RX3 81 yX3_placeChords ∈ lw_tbl := List.mem_of_getElem? (i := 979) (by decide +kernel)
theorem lm_X3_87 : Cond.methodLink RX3 87 yX7_add ∈ lw_tbl := List.mem_of_getElem? (i := 993) (by decide +kernel)
theorem lm_X3_91 : Cond.methodLink RX3 91 yX3_cutBack ∈ lw_tbl := List.mem_of_getElem? (i := 994) (by decide +kernel)
theorem lm_X3_97 : Cond.methodLink RX3 97 yX7_size ∈ lw_tbl := List.mem_of_getElem? (i := 978) (by decide +kernel)
theorem lk_X3_43 : Cond.fieldLink RX3 43 "ChordSheet$Layout" "width" "I" ∈ lw_tbl := List.mem_of_getElem? (i := 158) (by decide +kernel)
theorem lm_X3_107 : Cond.methodLink RX3 107 yX8_chordCount ∈ lw_tbl := List.mem_of_getElem? (i := 983) (by decide +kernel)
theorem lm_X3_110 : Cond.methodLink RX3 110 yX8_isAt ∈ lw_tbl := List.mem_of_getElem? (i := 984) (by decide +kernel)
theorem lm_X3_114 : Cond.methodLink RX3 114 yX7_fillTo ∈ lw_tbl := List.mem_of_getElem? (i := 988) (by decide +kernel)
theorem lm_X3_118 : Cond.methodLink RX3 118 yX8_writeName ∈ lw_tbl := List.mem_of_getElem? (i := 992) (by decide +kernel)
theorem lm_X3_49 : Cond.methodLink RX3 49 yX8_countUpTo ∈ lw_tbl := List.mem_of_getElem? (i := 957) (by decide +kernel)
theorem lm_X4_19 : Cond.methodLink RX4 19 yJ0_indexOf_0f7a4 ∈ lw_tbl := List.mem_of_getElem? (i := 264) (by decide +kernel)
theorem lm_X4_9 : Cond.methodLink RX4 9 yJ9_floorMod_7cf53 ∈ lw_tbl := List.mem_of_getElem? (i := 468) (by decide +kernel)
theorem lm_X4_25 : Cond.methodLink RX4 25 yX4_placeFrom ∈ lw_tbl := List.mem_of_getElem? (i := 529) (by decide +kernel)
theorem lm_X4_28 : Cond.methodLink RX4 28 yX4_hasTwoAccidentals ∈ lw_tbl := List.mem_of_getElem? (i := 530) (by decide +kernel)
theorem lm_X4_32 : Cond.methodLink RX4 32 yJ0_charAt_5068e ∈ lw_tbl := List.mem_of_getElem? (i := 834) (by decide +kernel)
theorem lm_X4_36 : Cond.methodLink RX4 36 yX7_add ∈ lw_tbl := List.mem_of_getElem? (i := 835) (by decide +kernel)
theorem lm_X4_42 : Cond.methodLink RX4 42 yJ9_floorDiv_7cf53 ∈ lw_tbl := List.mem_of_getElem? (i := 836) (by decide +kernel)
theorem lm_X4_45 : Cond.methodLink RX4 45 yJ9_abs_0f7a4 ∈ lw_tbl := List.mem_of_getElem? (i := 839) (by decide +kernel)
theorem lk_X5_68 : Cond.fieldLink RX5 68 "ChordSheet$Quality" "ALL" "[LChordSheet$Quality;" ∈ lw_tbl := List.mem_of_getElem? (i := 357) (by decide +kernel)
theorem lk_X5_3 : Cond.fieldLink RX5 3 "ChordSheet$Quality" "MAJOR" "LChordSheet$Quality;" ∈ lw_tbl := List.mem_of_getElem? (i := 362) (by decide +kernel)
theorem lk_X5_61 : Cond.fieldLink RX5 61 "ChordSheet$Quality" "easyRoots" "I" ∈ lw_tbl := List.mem_of_getElem? (i := 1043) (by decide +kernel)
theorem lk_X5_57 : Cond.fieldLink RX5 57 "ChordSheet$Quality" "tones" "I" ∈ lw_tbl := List.mem_of_getElem? (i := 1042) (by decide +kernel)
theorem lm_X5_71 : Cond.methodLink RX5 71 yX4_raisedSet ∈ lw_tbl := List.mem_of_getElem? (i := 876) (by decide +kernel)
theorem lk_X6_22 : Cond.fieldLink RX6 22 "ChordSheet$Reader" "bass" "I" ∈ lw_tbl := List.mem_of_getElem? (i := 131) (by decide +kernel)
theorem lk_X6_9 : Cond.fieldLink RX6 9 "ChordSheet$Reader" "text" "LChordSheet$Row;" ∈ lw_tbl := List.mem_of_getElem? (i := 127) (by decide +kernel)
theorem lk_X6_19 : Cond.fieldLink RX6 19 "ChordSheet$Reader" "quality" "I" ∈ lw_tbl := List.mem_of_getElem? (i := 130) (by decide +kernel)
theorem lk_X6_51 : Cond.fieldLink RX6 51 "ChordSheet$Reader" "stop" "I" ∈ lw_tbl := List.mem_of_getElem? (i := 128) (by decide +kernel)
theorem lm_X6_71 : Cond.methodLink RX6 71 yX6_readNote ∈ lw_tbl := List.mem_of_getElem? (i := 256) (by decide +kernel)
theorem lk_X6_15 : Cond.fieldLink RX6 15 "ChordSheet$Reader" "root" "I" ∈ lw_tbl := List.mem_of_getElem? (i := 129) (by decide +kernel)
theorem lm_X6_74 : Cond.methodLink RX6 74 yX6_readQuality ∈ lw_tbl := List.mem_of_getElem? (i := 350) (by decide +kernel)
theorem lk_X6_47 : Cond.fieldLink RX6 47 "ChordSheet$Reader" "whole" "Z" ∈ lw_tbl := List.mem_of_getElem? (i := 132) (by decide +kernel)
theorem lm_X6_36 : Cond.methodLink RX6 36 yX7_at ∈ lw_tbl := List.mem_of_getElem? (i := 244) (by decide +kernel)
theorem lm_X6_78 : Cond.methodLink RX6 78 yX4_natural ∈ lw_tbl := List.mem_of_getElem? (i := 260) (by decide +kernel)
theorem lm_X6_83 : Cond.methodLink RX6 83 yX5_count ∈ lw_tbl := List.mem_of_getElem? (i := 354) (by decide +kernel)
theorem lm_X6_88 : Cond.methodLink RX6 88 yX5_at ∈ lw_tbl := List.mem_of_getElem? (i := 359) (by decide +kernel)
theorem lk_X6_91 : Cond.fieldLinkNest RX6 91 "ChordSheet$Quality" "suffix" "Ljava/lang/String;" "ChordSheet" ∈ lw_tbl := List.mem_of_getElem? (i := 1039) (by decide +kernel)
theorem lm_X6_95 : Cond.methodLink RX6 95 yX6_sharedLength ∈ lw_tbl := List.mem_of_getElem? (i := 364) (by decide +kernel)
theorem lm_X6_99 : Cond.methodLink RX6 99 yJ0_length_8abf5 ∈ lw_tbl := List.mem_of_getElem? (i := 368) (by decide +kernel)
theorem lm_X6_25 : Cond.methodLink RX6 25 yX8_clear ∈ lw_tbl := List.mem_of_getElem? (i := 239) (by decide +kernel)
theorem lm_X6_30 : Cond.methodLink RX6 30 yX7_size ∈ lw_tbl := List.mem_of_getElem? (i := 243) (by decide +kernel)
theorem lm_X6_40 : Cond.methodLink RX6 40 yX8_chordCount ∈ lw_tbl := List.mem_of_getElem? (i := 248) (by decide +kernel)
theorem lm_X6_43 : Cond.methodLink RX6 43 yX6_readChord ∈ lw_tbl := List.mem_of_getElem? (i := 252) (by decide +kernel)
theorem lm_X6_54 : Cond.methodLink RX6 54 yX8_append ∈ lw_tbl := List.mem_of_getElem? (i := 389) (by decide +kernel)
theorem lm_X6_58 : Cond.methodLink RX6 58 yJ9_max_7cf53 ∈ lw_tbl := List.mem_of_getElem? (i := 428) (by decide +kernel)
theorem lm_X6_64 : Cond.methodLink RX6 64 yX8_beginLine ∈ lw_tbl := List.mem_of_getElem? (i := 429) (by decide +kernel)
theorem lm_X6_67 : Cond.methodLink RX6 67 yX8_addLetter ∈ lw_tbl := List.mem_of_getElem? (i := 433) (by decide +kernel)
theorem lm_X6_104 : Cond.methodLink RX6 104 yJ0_charAt_5068e ∈ lw_tbl := List.mem_of_getElem? (i := 369) (by decide +kernel)
theorem lk_X7_15 : Cond.fieldLink RX7 15 "ChordSheet$Row" "size" "I" ∈ lw_tbl := List.mem_of_getElem? (i := 64) (by decide +kernel)
theorem lk_X7_11 : Cond.fieldLink RX7 11 "ChordSheet$Row" "signs" "[C" ∈ lw_tbl := List.mem_of_getElem? (i := 63) (by decide +kernel)
theorem lm_X7_19 : Cond.methodLink RX7 19 yJ0_length_8abf5 ∈ lw_tbl := List.mem_of_getElem? (i := 847) (by decide +kernel)
theorem lm_X7_25 : Cond.methodLink RX7 25 yJ0_charAt_5068e ∈ lw_tbl := List.mem_of_getElem? (i := 848) (by decide +kernel)
theorem lm_X7_29 : Cond.methodLink RX7 29 yX7_add ∈ lw_tbl := List.mem_of_getElem? (i := 849) (by decide +kernel)
theorem lk_X8_19 : Cond.fieldLink RX8 19 "ChordSheet$Sheet" "lineCount" "I" ∈ lw_tbl := List.mem_of_getElem? (i := 79) (by decide +kernel)
theorem lm_X8_42 : Cond.methodLink RX8 42 yX8_startOf ∈ lw_tbl := List.mem_of_getElem? (i := 397) (by decide +kernel)
theorem lk_X8_9 : Cond.fieldLink RX8 9 "ChordSheet$Sheet" "letters" "[C" ∈ lw_tbl := List.mem_of_getElem? (i := 77) (by decide +kernel)
theorem lk_X8_15 : Cond.fieldLink RX8 15 "ChordSheet$Sheet" "starts" "[I" ∈ lw_tbl := List.mem_of_getElem? (i := 78) (by decide +kernel)
theorem lm_X8_50 : Cond.methodLink RX8 50 yX8_lengthOf ∈ lw_tbl := List.mem_of_getElem? (i := 393) (by decide +kernel)
theorem lm_X8_110 : Cond.methodLink RX8 110 yX8_letterAt ∈ lw_tbl := List.mem_of_getElem? (i := 665) (by decide +kernel)
theorem lk_X8_32 : Cond.fieldLink RX8 32 "ChordSheet$Sheet" "chordCount" "I" ∈ lw_tbl := List.mem_of_getElem? (i := 81) (by decide +kernel)
theorem lm_X8_69 : Cond.methodLink RX8 69 yX8_get ∈ lw_tbl := List.mem_of_getElem? (i := 413) (by decide +kernel)
theorem lm_X8_53 : Cond.methodLink RX8 53 yX8_insert ∈ lw_tbl := List.mem_of_getElem? (i := 401) (by decide +kernel)
theorem lk_X8_23 : Cond.fieldLink RX8 23 "ChordSheet$Sheet" "chordFields" "[I" ∈ lw_tbl := List.mem_of_getElem? (i := 80) (by decide +kernel)
theorem lk_X8_35 : Cond.fieldLink RX8 35 "ChordSheet$Sheet" "signature" "I" ∈ lw_tbl := List.mem_of_getElem? (i := 82) (by decide +kernel)
theorem lk_X8_38 : Cond.fieldLink RX8 38 "ChordSheet$Sheet" "minor" "Z" ∈ lw_tbl := List.mem_of_getElem? (i := 84) (by decide +kernel)
theorem lm_X8_65 : Cond.methodLink RX8 65 yX8_isUpTo ∈ lw_tbl := List.mem_of_getElem? (i := 409) (by decide +kernel)
theorem lm_X8_57 : Cond.methodLink RX8 57 yX8_countUpTo ∈ lw_tbl := List.mem_of_getElem? (i := 405) (by decide +kernel)
theorem lm_X8_46 : Cond.methodLink RX8 46 yX8_set ∈ lw_tbl := List.mem_of_getElem? (i := 420) (by decide +kernel)
theorem lm_X8_61 : Cond.methodLink RX8 61 yX8_put ∈ lw_tbl := List.mem_of_getElem? (i := 424) (by decide +kernel)
theorem lm_X8_104 : Cond.methodLink RX8 104 yX8_spellField ∈ lw_tbl := List.mem_of_getElem? (i := 519) (by decide +kernel)
theorem lm_X8_113 : Cond.methodLink RX8 113 yX4_raised ∈ lw_tbl := List.mem_of_getElem? (i := 523) (by decide +kernel)
theorem lm_X8_116 : Cond.methodLink RX8 116 yX4_spelled ∈ lw_tbl := List.mem_of_getElem? (i := 526) (by decide +kernel)
theorem lm_X8_72 : Cond.methodLink RX8 72 yX4_pitchClass ∈ lw_tbl := List.mem_of_getElem? (i := 871) (by decide +kernel)
theorem lm_X8_77 : Cond.methodLink RX8 77 yX5_at ∈ lw_tbl := List.mem_of_getElem? (i := 842) (by decide +kernel)
theorem lm_X8_83 : Cond.methodLink RX8 83 yX5_tonesOn ∈ lw_tbl := List.mem_of_getElem? (i := 872) (by decide +kernel)
theorem lm_X8_86 : Cond.methodLink RX8 86 yX4_write ∈ lw_tbl := List.mem_of_getElem? (i := 831) (by decide +kernel)
theorem lk_X8_90 : Cond.fieldLinkNest RX8 90 "ChordSheet$Quality" "suffix" "Ljava/lang/String;" "ChordSheet" ∈ lw_tbl := List.mem_of_getElem? (i := 1041) (by decide +kernel)
theorem lm_X8_94 : Cond.methodLink RX8 94 yX7_addAll ∈ lw_tbl := List.mem_of_getElem? (i := 843) (by decide +kernel)
theorem lm_X8_100 : Cond.methodLink RX8 100 yX7_add ∈ lw_tbl := List.mem_of_getElem? (i := 850) (by decide +kernel)
theorem lm_X9_115 : Cond.methodLink RX9 115 yX9_requireLine ∈ lw_tbl := List.mem_of_getElem? (i := 711) (by decide +kernel)
theorem lm_X9_163 : Cond.methodLink RX9 163 yX9_requireChordColumn ∈ lw_tbl := List.mem_of_getElem? (i := 720) (by decide +kernel)
theorem lk_X9_22 : Cond.fieldLink RX9 22 "ChordSheet" "sheet" "LChordSheet$Sheet;" ∈ lw_tbl := List.mem_of_getElem? (i := 190) (by decide +kernel)
theorem lm_X9_107 : Cond.methodLink RX9 107 yX8_chordCount ∈ lw_tbl := List.mem_of_getElem? (i := 485) (by decide +kernel)
theorem lk_X9_41 : Cond.fieldLink RX9 41 "ChordSheet" "reader" "LChordSheet$Reader;" ∈ lw_tbl := List.mem_of_getElem? (i := 193) (by decide +kernel)
theorem lm_X9_147 : Cond.methodLink RX9 147 yX6_readSingleChord ∈ lw_tbl := List.mem_of_getElem? (i := 727) (by decide +kernel)
theorem lk_X9_32 : Cond.fieldLink RX9 32 "ChordSheet" "history" "LChordSheet$History;" ∈ lw_tbl := List.mem_of_getElem? (i := 192) (by decide +kernel)
theorem lm_X9_93 : Cond.methodLink RX9 93 yX1_keep ∈ lw_tbl := List.mem_of_getElem? (i := 437) (by decide +kernel)
theorem lk_X9_10 : Cond.fieldLink RX9 10 "ChordSheet" "text" "LChordSheet$Row;" ∈ lw_tbl := List.mem_of_getElem? (i := 188) (by decide +kernel)
theorem lm_X9_85 : Cond.methodLink RX9 85 yX7_cutTo ∈ lw_tbl := List.mem_of_getElem? (i := 227) (by decide +kernel)
theorem lm_X9_150 : Cond.methodLink RX9 150 yX6_root ∈ lw_tbl := List.mem_of_getElem? (i := 731) (by decide +kernel)
theorem lm_X9_153 : Cond.methodLink RX9 153 yX6_quality ∈ lw_tbl := List.mem_of_getElem? (i := 735) (by decide +kernel)
theorem lm_X9_156 : Cond.methodLink RX9 156 yX6_bass ∈ lw_tbl := List.mem_of_getElem? (i := 739) (by decide +kernel)
theorem lm_X9_169 : Cond.methodLink RX9 169 yX8_insert ∈ lw_tbl := List.mem_of_getElem? (i := 743) (by decide +kernel)
theorem lm_X9_131 : Cond.methodLink RX9 131 yX9_requireChord ∈ lw_tbl := List.mem_of_getElem? (i := 683) (by decide +kernel)
theorem lm_X9_134 : Cond.methodLink RX9 134 yX8_get ∈ lw_tbl := List.mem_of_getElem? (i := 703) (by decide +kernel)
theorem lm_X9_239 : Cond.methodLink RX9 239 yX0_easiestFret ∈ lw_tbl := List.mem_of_getElem? (i := 893) (by decide +kernel)
theorem lm_X9_72 : Cond.methodLink RX9 72 yX7_size ∈ lw_tbl := List.mem_of_getElem? (i := 223) (by decide +kernel)
theorem lm_X9_178 : Cond.methodLink RX9 178 yX8_tonesOf ∈ lw_tbl := List.mem_of_getElem? (i := 867) (by decide +kernel)
theorem lm_X9_181 : Cond.methodLink RX9 181 yJ6_bitCount_0f7a4 ∈ lw_tbl := List.mem_of_getElem? (i := 879) (by decide +kernel)
theorem lm_X9_186 : Cond.methodLink RX9 186 yX4_pitchClass ∈ lw_tbl := List.mem_of_getElem? (i := 856) (by decide +kernel)
theorem lk_X9_191 : Cond.fieldLinkNest RX9 191 "ChordSheet$Sheet" "signature" "I" "ChordSheet" ∈ lw_tbl := List.mem_of_getElem? (i := 83) (by decide +kernel)
theorem lk_X9_194 : Cond.fieldLinkNest RX9 194 "ChordSheet$Sheet" "minor" "Z" "ChordSheet" ∈ lw_tbl := List.mem_of_getElem? (i := 85) (by decide +kernel)
theorem lm_X9_197 : Cond.methodLink RX9 197 yX2_degreeOf ∈ lw_tbl := List.mem_of_getElem? (i := 857) (by decide +kernel)
theorem lm_X9_233 : Cond.methodLink RX9 233 yX0_difficultyAt ∈ lw_tbl := List.mem_of_getElem? (i := 916) (by decide +kernel)
theorem lm_X9_99 : Cond.methodLink RX9 99 yX2_best ∈ lw_tbl := List.mem_of_getElem? (i := 453) (by decide +kernel)
theorem lm_X9_262 : Cond.methodLink RX9 262 yX8_addTo ∈ lw_tbl := List.mem_of_getElem? (i := 660) (by decide +kernel)
theorem lm_X9_218 : Cond.methodLink RX9 218 yX9_tonic ∈ lw_tbl := List.mem_of_getElem? (i := 670) (by decide +kernel)
theorem lm_X9_9 : Cond.methodLinkNest RX9 9 yX7_init "ChordSheet" ∈ lw_tbl := List.mem_of_getElem? (i := 59) (by decide +kernel)
theorem lk_X9_16 : Cond.fieldLink RX9 16 "ChordSheet" "name" "LChordSheet$Row;" ∈ lw_tbl := List.mem_of_getElem? (i := 189) (by decide +kernel)
theorem lm_X9_21 : Cond.methodLinkNest RX9 21 yX8_init "ChordSheet" ∈ lw_tbl := List.mem_of_getElem? (i := 73) (by decide +kernel)
theorem lk_X9_26 : Cond.fieldLink RX9 26 "ChordSheet" "draft" "LChordSheet$Sheet;" ∈ lw_tbl := List.mem_of_getElem? (i := 191) (by decide +kernel)
theorem lm_X9_31 : Cond.methodLink RX9 31 yX1_init ∈ lw_tbl := List.mem_of_getElem? (i := 104) (by decide +kernel)
theorem lm_X9_38 : Cond.methodLink RX9 38 yX6_init ∈ lw_tbl := List.mem_of_getElem? (i := 123) (by decide +kernel)
theorem lm_X9_47 : Cond.methodLink RX9 47 yX3_init ∈ lw_tbl := List.mem_of_getElem? (i := 148) (by decide +kernel)
theorem lk_X9_50 : Cond.fieldLink RX9 50 "ChordSheet" "layout" "LChordSheet$Layout;" ∈ lw_tbl := List.mem_of_getElem? (i := 194) (by decide +kernel)
theorem lk_X9_54 : Cond.fieldLink RX9 54 "ChordSheet" "simple" "Z" ∈ lw_tbl := List.mem_of_getElem? (i := 195) (by decide +kernel)
theorem lk_X9_58 : Cond.fieldLink RX9 58 "ChordSheet" "flats" "Z" ∈ lw_tbl := List.mem_of_getElem? (i := 196) (by decide +kernel)
theorem lk_X9_61 : Cond.fieldLink RX9 61 "ChordSheet" "width" "I" ∈ lw_tbl := List.mem_of_getElem? (i := 197) (by decide +kernel)
theorem lm_X9_112 : Cond.methodLink RX9 112 yX8_lineCount ∈ lw_tbl := List.mem_of_getElem? (i := 499) (by decide +kernel)
theorem lm_X9_118 : Cond.methodLink RX9 118 yX8_lengthOf ∈ lw_tbl := List.mem_of_getElem? (i := 724) (by decide +kernel)
theorem lm_X9_127 : Cond.methodLink RX9 127 yX8_letterAt ∈ lw_tbl := List.mem_of_getElem? (i := 1016) (by decide +kernel)
theorem lm_X9_173 : Cond.methodLink RX9 173 yX8_takeOut ∈ lw_tbl := List.mem_of_getElem? (i := 1028) (by decide +kernel)
theorem lm_X9_137 : Cond.methodLink RX9 137 yX9_requireIndex ∈ lw_tbl := List.mem_of_getElem? (i := 822) (by decide +kernel)
theorem lm_X9_140 : Cond.methodLink RX9 140 yX8_writeName ∈ lw_tbl := List.mem_of_getElem? (i := 827) (by decide +kernel)
theorem lm_X9_144 : Cond.methodLink RX9 144 yX7_at ∈ lw_tbl := List.mem_of_getElem? (i := 851) (by decide +kernel)
theorem lm_X9_242 : Cond.methodLink RX9 242 yX3_countPairs ∈ lw_tbl := List.mem_of_getElem? (i := 949) (by decide +kernel)
theorem lm_X9_89 : Cond.methodLink RX9 89 yX6_readSheet ∈ lw_tbl := List.mem_of_getElem? (i := 235) (by decide +kernel)
theorem lm_X9_96 : Cond.methodLink RX9 96 yX8_copyFrom ∈ lw_tbl := List.mem_of_getElem? (i := 452) (by decide +kernel)
theorem lm_X9_104 : Cond.methodLink RX9 104 yX9_takeKey ∈ lw_tbl := List.mem_of_getElem? (i := 478) (by decide +kernel)
theorem lm_X9_268 : Cond.methodLink RX9 268 yX8_hasLine ∈ lw_tbl := List.mem_of_getElem? (i := 715) (by decide +kernel)
theorem lm_X9_228 : Cond.methodLink RX9 228 yX8_spell ∈ lw_tbl := List.mem_of_getElem? (i := 515) (by decide +kernel)
theorem lm_X9_245 : Cond.methodLink RX9 245 yX3_find ∈ lw_tbl := List.mem_of_getElem? (i := 1002) (by decide +kernel)
theorem lm_X9_205 : Cond.methodLink RX9 205 yX9_requireTonic ∈ lw_tbl := List.mem_of_getElem? (i := 632) (by decide +kernel)
theorem lm_X9_209 : Cond.methodLink RX9 209 yX2_signatureOf ∈ lw_tbl := List.mem_of_getElem? (i := 482) (by decide +kernel)
theorem lm_X9_212 : Cond.methodLink RX9 212 yX2_scoreOf ∈ lw_tbl := List.mem_of_getElem? (i := 925) (by decide +kernel)
theorem lm_X9_201 : Cond.methodLink RX9 201 yX2_tonicOf ∈ lw_tbl := List.mem_of_getElem? (i := 674) (by decide +kernel)
theorem lm_X9_221 : Cond.methodLink RX9 221 yX4_raised ∈ lw_tbl := List.mem_of_getElem? (i := 756) (by decide +kernel)
theorem lm_X9_224 : Cond.methodLink RX9 224 yX2_simplestSignature ∈ lw_tbl := List.mem_of_getElem? (i := 757) (by decide +kernel)
theorem lm_X9_81 : Cond.methodLink RX9 81 yX7_add ∈ lw_tbl := List.mem_of_getElem? (i := 770) (by decide +kernel)
theorem lm_X9_251 : Cond.methodLink RX9 251 yX1_isEmpty ∈ lw_tbl := List.mem_of_getElem? (i := 549) (by decide +kernel)
theorem lm_X9_257 : Cond.methodLink RX9 257 yX1_restore ∈ lw_tbl := List.mem_of_getElem? (i := 620) (by decide +kernel)
