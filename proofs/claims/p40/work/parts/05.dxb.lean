theorem dX9_init_0 : decode cX9_init 0 = .ok (.aload_n 0, 1) := by decide +kernel
theorem dX9_init_1 : decode cX9_init 1 = .ok (.invokespecial 1, 3) := by decide +kernel
theorem dX9_init_4 : decode cX9_init 4 = .ok (.aload_n 0, 1) := by decide +kernel
theorem dX9_init_5 : decode cX9_init 5 = .ok (.new 7, 3) := by decide +kernel
theorem dX9_init_8 : decode cX9_init 8 = .ok (.dup, 1) := by decide +kernel
theorem dX9_init_9 : decode cX9_init 9 = .ok (.invokespecial 9, 3) := by decide +kernel
theorem dX9_init_12 : decode cX9_init 12 = .ok (.putfield 10, 3) := by decide +kernel
theorem dX9_init_15 : decode cX9_init 15 = .ok (.aload_n 0, 1) := by decide +kernel
theorem dX9_init_16 : decode cX9_init 16 = .ok (.new 7, 3) := by decide +kernel
theorem dX9_init_19 : decode cX9_init 19 = .ok (.dup, 1) := by decide +kernel
theorem dX9_init_20 : decode cX9_init 20 = .ok (.invokespecial 9, 3) := by decide +kernel
theorem dX9_init_23 : decode cX9_init 23 = .ok (.putfield 16, 3) := by decide +kernel
theorem dX9_init_26 : decode cX9_init 26 = .ok (.aload_n 0, 1) := by decide +kernel
theorem dX9_init_27 : decode cX9_init 27 = .ok (.new 19, 3) := by decide +kernel
theorem dX9_init_30 : decode cX9_init 30 = .ok (.dup, 1) := by decide +kernel
theorem dX9_init_31 : decode cX9_init 31 = .ok (.invokespecial 21, 3) := by decide +kernel
theorem dX9_init_34 : decode cX9_init 34 = .ok (.putfield 22, 3) := by decide +kernel
theorem dX9_init_37 : decode cX9_init 37 = .ok (.aload_n 0, 1) := by decide +kernel
theorem dX9_init_38 : decode cX9_init 38 = .ok (.new 19, 3) := by decide +kernel
theorem dX9_init_41 : decode cX9_init 41 = .ok (.dup, 1) := by decide +kernel
theorem dX9_init_42 : decode cX9_init 42 = .ok (.invokespecial 21, 3) := by decide +kernel
theorem dX9_init_45 : decode cX9_init 45 = .ok (.putfield 26, 3) := by decide +kernel
theorem dX9_init_48 : decode cX9_init 48 = .ok (.aload_n 0, 1) := by decide +kernel
theorem dX9_init_49 : decode cX9_init 49 = .ok (.new 29, 3) := by decide +kernel
theorem dX9_init_52 : decode cX9_init 52 = .ok (.dup, 1) := by decide +kernel
theorem dX9_init_53 : decode cX9_init 53 = .ok (.invokespecial 31, 3) := by decide +kernel
theorem dX9_init_56 : decode cX9_init 56 = .ok (.putfield 32, 3) := by decide +kernel
theorem dX9_init_59 : decode cX9_init 59 = .ok (.aload_n 0, 1) := by decide +kernel
theorem dX9_init_60 : decode cX9_init 60 = .ok (.new 36, 3) := by decide +kernel
theorem dX9_init_63 : decode cX9_init 63 = .ok (.dup, 1) := by decide +kernel
theorem dX9_init_64 : decode cX9_init 64 = .ok (.aload_n 0, 1) := by decide +kernel
theorem dX9_init_65 : decode cX9_init 65 = .ok (.getfield 10, 3) := by decide +kernel
theorem dX9_init_68 : decode cX9_init 68 = .ok (.invokespecial 38, 3) := by decide +kernel
theorem dX9_init_71 : decode cX9_init 71 = .ok (.putfield 41, 3) := by decide +kernel
theorem dX9_init_74 : decode cX9_init 74 = .ok (.aload_n 0, 1) := by decide +kernel
theorem dX9_init_75 : decode cX9_init 75 = .ok (.new 45, 3) := by decide +kernel
theorem dX9_init_78 : decode cX9_init 78 = .ok (.dup, 1) := by decide +kernel
theorem dX9_init_79 : decode cX9_init 79 = .ok (.aload_n 0, 1) := by decide +kernel
theorem dX9_init_80 : decode cX9_init 80 = .ok (.getfield 22, 3) := by decide +kernel
theorem dX9_init_83 : decode cX9_init 83 = .ok (.invokespecial 47, 3) := by decide +kernel
theorem dX9_init_86 : decode cX9_init 86 = .ok (.putfield 50, 3) := by decide +kernel
theorem dX9_init_89 : decode cX9_init 89 = .ok (.aload_n 0, 1) := by decide +kernel
theorem dX9_init_90 : decode cX9_init 90 = .ok (.iconst 1, 1) := by decide +kernel
theorem dX9_init_91 : decode cX9_init 91 = .ok (.putfield 54, 3) := by decide +kernel
theorem dX9_init_94 : decode cX9_init 94 = .ok (.aload_n 0, 1) := by decide +kernel
theorem dX9_init_95 : decode cX9_init 95 = .ok (.iconst 0, 1) := by decide +kernel
theorem dX9_init_96 : decode cX9_init 96 = .ok (.putfield 58, 3) := by decide +kernel
theorem dX9_init_99 : decode cX9_init 99 = .ok (.aload_n 0, 1) := by decide +kernel
theorem dX9_init_100 : decode cX9_init 100 = .ok (.sipush 200, 3) := by decide +kernel
theorem dX9_init_103 : decode cX9_init 103 = .ok (.putfield 61, 3) := by decide +kernel
theorem dX9_init_106 : decode cX9_init 106 = .ok (.return_, 1) := by decide +kernel
theorem dX9_type_0 : decode cX9_type 0 = .ok (.iload_n 1, 1) := by decide +kernel
theorem dX9_type_1 : decode cX9_type 1 = .ok (.bipush 32, 2) := by decide +kernel
theorem dX9_type_3 : decode cX9_type 3 = .ok (.if_icmp .lt 9, 3) := by decide +kernel
theorem dX9_type_6 : decode cX9_type 6 = .ok (.iload_n 1, 1) := by decide +kernel
theorem dX9_type_7 : decode cX9_type 7 = .ok (.bipush 126, 2) := by decide +kernel
theorem dX9_type_9 : decode cX9_type 9 = .ok (.if_icmp .le 13, 3) := by decide +kernel
theorem dX9_type_12 : decode cX9_type 12 = .ok (.new 65, 3) := by decide +kernel
theorem dX9_type_15 : decode cX9_type 15 = .ok (.dup, 1) := by decide +kernel
theorem dX9_type_16 : decode cX9_type 16 = .ok (.ldc 67, 2) := by decide +kernel
theorem dX9_type_18 : decode cX9_type 18 = .ok (.invokespecial 69, 3) := by decide +kernel
theorem dX9_type_21 : decode cX9_type 21 = .ok (.athrow, 1) := by decide +kernel
theorem dX9_type_22 : decode cX9_type 22 = .ok (.aload_n 0, 1) := by decide +kernel
theorem dX9_type_23 : decode cX9_type 23 = .ok (.getfield 10, 3) := by decide +kernel
theorem dX9_type_26 : decode cX9_type 26 = .ok (.invokevirtual 72, 3) := by decide +kernel
theorem dX9_type_29 : decode cX9_type 29 = .ok (.sipush 200, 3) := by decide +kernel
theorem dX9_type_32 : decode cX9_type 32 = .ok (.if_icmp .lt 13, 3) := by decide +kernel
theorem dX9_type_35 : decode cX9_type 35 = .ok (.new 76, 3) := by decide +kernel
theorem dX9_type_38 : decode cX9_type 38 = .ok (.dup, 1) := by decide +kernel
theorem dX9_type_39 : decode cX9_type 39 = .ok (.ldc 78, 2) := by decide +kernel
theorem dX9_type_41 : decode cX9_type 41 = .ok (.invokespecial 80, 3) := by decide +kernel
theorem dX9_type_44 : decode cX9_type 44 = .ok (.athrow, 1) := by decide +kernel
theorem dX9_type_45 : decode cX9_type 45 = .ok (.aload_n 0, 1) := by decide +kernel
theorem dX9_type_46 : decode cX9_type 46 = .ok (.getfield 10, 3) := by decide +kernel
theorem dX9_type_49 : decode cX9_type 49 = .ok (.iload_n 1, 1) := by decide +kernel
theorem dX9_type_50 : decode cX9_type 50 = .ok (.i2c, 1) := by decide +kernel
theorem dX9_type_51 : decode cX9_type 51 = .ok (.invokevirtual 81, 3) := by decide +kernel
theorem dX9_type_54 : decode cX9_type 54 = .ok (.aload_n 0, 1) := by decide +kernel
theorem dX9_type_55 : decode cX9_type 55 = .ok (.getfield 10, 3) := by decide +kernel
theorem dX9_type_58 : decode cX9_type 58 = .ok (.invokevirtual 72, 3) := by decide +kernel
theorem dX9_type_61 : decode cX9_type 61 = .ok (.ireturn, 1) := by decide +kernel
theorem dX9_clearText_0 : decode cX9_clearText 0 = .ok (.aload_n 0, 1) := by decide +kernel
theorem dX9_clearText_1 : decode cX9_clearText 1 = .ok (.getfield 10, 3) := by decide +kernel
theorem dX9_clearText_4 : decode cX9_clearText 4 = .ok (.invokevirtual 72, 3) := by decide +kernel
theorem dX9_clearText_7 : decode cX9_clearText 7 = .ok (.istore_n 1, 1) := by decide +kernel
theorem dX9_clearText_8 : decode cX9_clearText 8 = .ok (.aload_n 0, 1) := by decide +kernel
theorem dX9_clearText_9 : decode cX9_clearText 9 = .ok (.getfield 10, 3) := by decide +kernel
theorem dX9_clearText_12 : decode cX9_clearText 12 = .ok (.iconst 0, 1) := by decide +kernel
theorem dX9_clearText_13 : decode cX9_clearText 13 = .ok (.invokevirtual 85, 3) := by decide +kernel
theorem dX9_clearText_16 : decode cX9_clearText 16 = .ok (.iload_n 1, 1) := by decide +kernel
theorem dX9_clearText_17 : decode cX9_clearText 17 = .ok (.ireturn, 1) := by decide +kernel
theorem dX9_read_0 : decode cX9_read 0 = .ok (.aload_n 0, 1) := by decide +kernel
theorem dX9_read_1 : decode cX9_read 1 = .ok (.getfield 41, 3) := by decide +kernel
theorem dX9_read_4 : decode cX9_read 4 = .ok (.aload_n 0, 1) := by decide +kernel
theorem dX9_read_5 : decode cX9_read 5 = .ok (.getfield 26, 3) := by decide +kernel
theorem dX9_read_8 : decode cX9_read 8 = .ok (.invokevirtual 89, 3) := by decide +kernel
theorem dX9_read_11 : decode cX9_read 11 = .ok (.istore_n 1, 1) := by decide +kernel
theorem dX9_read_12 : decode cX9_read 12 = .ok (.iload_n 1, 1) := by decide +kernel
theorem dX9_read_13 : decode cX9_read 13 = .ok (.iconst (-1), 1) := by decide +kernel
theorem dX9_read_14 : decode cX9_read 14 = .ok (.if_icmp .eq 7, 3) := by decide +kernel
theorem dX9_read_17 : decode cX9_read 17 = .ok (.iconst (-1), 1) := by decide +kernel
theorem dX9_read_18 : decode cX9_read 18 = .ok (.iload_n 1, 1) := by decide +kernel
theorem dX9_read_19 : decode cX9_read 19 = .ok (.isub, 1) := by decide +kernel
theorem dX9_read_20 : decode cX9_read 20 = .ok (.ireturn, 1) := by decide +kernel
theorem dX9_read_21 : decode cX9_read 21 = .ok (.aload_n 0, 1) := by decide +kernel
theorem dX9_read_22 : decode cX9_read 22 = .ok (.getfield 32, 3) := by decide +kernel
theorem dX9_read_25 : decode cX9_read 25 = .ok (.aload_n 0, 1) := by decide +kernel
theorem dX9_read_26 : decode cX9_read 26 = .ok (.getfield 22, 3) := by decide +kernel
theorem dX9_read_29 : decode cX9_read 29 = .ok (.invokevirtual 93, 3) := by decide +kernel
theorem dX9_read_32 : decode cX9_read 32 = .ok (.aload_n 0, 1) := by decide +kernel
theorem dX9_read_33 : decode cX9_read 33 = .ok (.getfield 22, 3) := by decide +kernel
theorem dX9_read_36 : decode cX9_read 36 = .ok (.aload_n 0, 1) := by decide +kernel
theorem dX9_read_37 : decode cX9_read 37 = .ok (.getfield 26, 3) := by decide +kernel
theorem dX9_read_40 : decode cX9_read 40 = .ok (.invokevirtual 96, 3) := by decide +kernel
theorem dX9_read_43 : decode cX9_read 43 = .ok (.aload_n 0, 1) := by decide +kernel
theorem dX9_read_44 : decode cX9_read 44 = .ok (.aload_n 0, 1) := by decide +kernel
theorem dX9_read_45 : decode cX9_read 45 = .ok (.getfield 22, 3) := by decide +kernel
theorem dX9_read_48 : decode cX9_read 48 = .ok (.invokestatic 99, 3) := by decide +kernel
theorem dX9_read_51 : decode cX9_read 51 = .ok (.invokevirtual 104, 3) := by decide +kernel
theorem dX9_read_54 : decode cX9_read 54 = .ok (.aload_n 0, 1) := by decide +kernel
theorem dX9_read_55 : decode cX9_read 55 = .ok (.getfield 10, 3) := by decide +kernel
theorem dX9_read_58 : decode cX9_read 58 = .ok (.iconst 0, 1) := by decide +kernel
theorem dX9_read_59 : decode cX9_read 59 = .ok (.invokevirtual 85, 3) := by decide +kernel
theorem dX9_read_62 : decode cX9_read 62 = .ok (.aload_n 0, 1) := by decide +kernel
theorem dX9_read_63 : decode cX9_read 63 = .ok (.getfield 22, 3) := by decide +kernel
theorem dX9_read_66 : decode cX9_read 66 = .ok (.invokevirtual 107, 3) := by decide +kernel
theorem dX9_read_69 : decode cX9_read 69 = .ok (.ireturn, 1) := by decide +kernel
theorem dX9_setSimple_0 : decode cX9_setSimple 0 = .ok (.aload_n 0, 1) := by decide +kernel
theorem dX9_setSimple_1 : decode cX9_setSimple 1 = .ok (.getfield 54, 3) := by decide +kernel
theorem dX9_setSimple_4 : decode cX9_setSimple 4 = .ok (.istore_n 2, 1) := by decide +kernel
theorem dX9_setSimple_5 : decode cX9_setSimple 5 = .ok (.aload_n 0, 1) := by decide +kernel
theorem dX9_setSimple_6 : decode cX9_setSimple 6 = .ok (.iload_n 1, 1) := by decide +kernel
theorem dX9_setSimple_7 : decode cX9_setSimple 7 = .ok (.putfield 54, 3) := by decide +kernel
theorem dX9_setSimple_10 : decode cX9_setSimple 10 = .ok (.iload_n 2, 1) := by decide +kernel
theorem dX9_setSimple_11 : decode cX9_setSimple 11 = .ok (.ireturn, 1) := by decide +kernel
theorem dX9_setFlats_0 : decode cX9_setFlats 0 = .ok (.aload_n 0, 1) := by decide +kernel
theorem dX9_setFlats_1 : decode cX9_setFlats 1 = .ok (.getfield 58, 3) := by decide +kernel
theorem dX9_setFlats_4 : decode cX9_setFlats 4 = .ok (.istore_n 2, 1) := by decide +kernel
theorem dX9_setFlats_5 : decode cX9_setFlats 5 = .ok (.aload_n 0, 1) := by decide +kernel
theorem dX9_setFlats_6 : decode cX9_setFlats 6 = .ok (.iload_n 1, 1) := by decide +kernel
theorem dX9_setFlats_7 : decode cX9_setFlats 7 = .ok (.putfield 58, 3) := by decide +kernel
theorem dX9_setFlats_10 : decode cX9_setFlats 10 = .ok (.iload_n 2, 1) := by decide +kernel
theorem dX9_setFlats_11 : decode cX9_setFlats 11 = .ok (.ireturn, 1) := by decide +kernel
theorem dX9_setWidth_0 : decode cX9_setWidth 0 = .ok (.iload_n 1, 1) := by decide +kernel
theorem dX9_setWidth_1 : decode cX9_setWidth 1 = .ok (.bipush 10, 2) := by decide +kernel
theorem dX9_setWidth_3 : decode cX9_setWidth 3 = .ok (.if_icmp .lt 10, 3) := by decide +kernel
theorem dX9_setWidth_6 : decode cX9_setWidth 6 = .ok (.iload_n 1, 1) := by decide +kernel
theorem dX9_setWidth_7 : decode cX9_setWidth 7 = .ok (.sipush 200, 3) := by decide +kernel
theorem dX9_setWidth_10 : decode cX9_setWidth 10 = .ok (.if_icmp .le 13, 3) := by decide +kernel
theorem dX9_setWidth_13 : decode cX9_setWidth 13 = .ok (.new 65, 3) := by decide +kernel
theorem dX9_setWidth_16 : decode cX9_setWidth 16 = .ok (.dup, 1) := by decide +kernel
theorem dX9_setWidth_17 : decode cX9_setWidth 17 = .ok (.ldc 110, 2) := by decide +kernel
theorem dX9_setWidth_19 : decode cX9_setWidth 19 = .ok (.invokespecial 69, 3) := by decide +kernel
theorem dX9_setWidth_22 : decode cX9_setWidth 22 = .ok (.athrow, 1) := by decide +kernel
theorem dX9_setWidth_23 : decode cX9_setWidth 23 = .ok (.aload_n 0, 1) := by decide +kernel
theorem dX9_setWidth_24 : decode cX9_setWidth 24 = .ok (.getfield 61, 3) := by decide +kernel
theorem dX9_setWidth_27 : decode cX9_setWidth 27 = .ok (.istore_n 2, 1) := by decide +kernel
theorem dX9_setWidth_28 : decode cX9_setWidth 28 = .ok (.aload_n 0, 1) := by decide +kernel
theorem dX9_setWidth_29 : decode cX9_setWidth 29 = .ok (.iload_n 1, 1) := by decide +kernel
theorem dX9_setWidth_30 : decode cX9_setWidth 30 = .ok (.putfield 61, 3) := by decide +kernel
theorem dX9_setWidth_33 : decode cX9_setWidth 33 = .ok (.iload_n 2, 1) := by decide +kernel
theorem dX9_setWidth_34 : decode cX9_setWidth 34 = .ok (.ireturn, 1) := by decide +kernel
theorem dX9_lines_0 : decode cX9_lines 0 = .ok (.aload_n 0, 1) := by decide +kernel
theorem dX9_lines_1 : decode cX9_lines 1 = .ok (.getfield 22, 3) := by decide +kernel
theorem dX9_lines_4 : decode cX9_lines 4 = .ok (.invokevirtual 112, 3) := by decide +kernel
theorem dX9_lines_7 : decode cX9_lines 7 = .ok (.ireturn, 1) := by decide +kernel
theorem dX9_lyrics_0 : decode cX9_lyrics 0 = .ok (.aload_n 0, 1) := by decide +kernel
theorem dX9_lyrics_1 : decode cX9_lyrics 1 = .ok (.iload_n 1, 1) := by decide +kernel
theorem dX9_lyrics_2 : decode cX9_lyrics 2 = .ok (.invokevirtual 115, 3) := by decide +kernel
theorem dX9_lyrics_5 : decode cX9_lyrics 5 = .ok (.aload_n 0, 1) := by decide +kernel
theorem dX9_lyrics_6 : decode cX9_lyrics 6 = .ok (.getfield 22, 3) := by decide +kernel
theorem dX9_lyrics_9 : decode cX9_lyrics 9 = .ok (.iload_n 1, 1) := by decide +kernel
theorem dX9_lyrics_10 : decode cX9_lyrics 10 = .ok (.invokevirtual 118, 3) := by decide +kernel
theorem dX9_lyrics_13 : decode cX9_lyrics 13 = .ok (.ireturn, 1) := by decide +kernel
theorem dX9_lyric_0 : decode cX9_lyric 0 = .ok (.aload_n 0, 1) := by decide +kernel
theorem dX9_lyric_1 : decode cX9_lyric 1 = .ok (.iload_n 1, 1) := by decide +kernel
theorem dX9_lyric_2 : decode cX9_lyric 2 = .ok (.invokevirtual 115, 3) := by decide +kernel
theorem dX9_lyric_5 : decode cX9_lyric 5 = .ok (.iload_n 2, 1) := by decide +kernel
theorem dX9_lyric_6 : decode cX9_lyric 6 = .ok (.ifCond .lt 15, 3) := by decide +kernel
theorem dX9_lyric_9 : decode cX9_lyric 9 = .ok (.iload_n 2, 1) := by decide +kernel
theorem dX9_lyric_10 : decode cX9_lyric 10 = .ok (.aload_n 0, 1) := by decide +kernel
theorem dX9_lyric_11 : decode cX9_lyric 11 = .ok (.getfield 22, 3) := by decide +kernel
theorem dX9_lyric_14 : decode cX9_lyric 14 = .ok (.iload_n 1, 1) := by decide +kernel
theorem dX9_lyric_15 : decode cX9_lyric 15 = .ok (.invokevirtual 118, 3) := by decide +kernel
theorem dX9_lyric_18 : decode cX9_lyric 18 = .ok (.if_icmp .lt 13, 3) := by decide +kernel
theorem dX9_lyric_21 : decode cX9_lyric 21 = .ok (.new 122, 3) := by decide +kernel
theorem dX9_lyric_24 : decode cX9_lyric 24 = .ok (.dup, 1) := by decide +kernel
theorem dX9_lyric_25 : decode cX9_lyric 25 = .ok (.ldc 124, 2) := by decide +kernel
theorem dX9_lyric_27 : decode cX9_lyric 27 = .ok (.invokespecial 126, 3) := by decide +kernel
theorem dX9_lyric_30 : decode cX9_lyric 30 = .ok (.athrow, 1) := by decide +kernel
theorem dX9_lyric_31 : decode cX9_lyric 31 = .ok (.aload_n 0, 1) := by decide +kernel
theorem dX9_lyric_32 : decode cX9_lyric 32 = .ok (.getfield 22, 3) := by decide +kernel
theorem dX9_lyric_35 : decode cX9_lyric 35 = .ok (.iload_n 1, 1) := by decide +kernel
theorem dX9_lyric_36 : decode cX9_lyric 36 = .ok (.iload_n 2, 1) := by decide +kernel
theorem dX9_lyric_37 : decode cX9_lyric 37 = .ok (.invokevirtual 127, 3) := by decide +kernel
theorem dX9_lyric_40 : decode cX9_lyric 40 = .ok (.ireturn, 1) := by decide +kernel
theorem dX9_chords_0 : decode cX9_chords 0 = .ok (.aload_n 0, 1) := by decide +kernel
theorem dX9_chords_1 : decode cX9_chords 1 = .ok (.getfield 22, 3) := by decide +kernel
theorem dX9_chords_4 : decode cX9_chords 4 = .ok (.invokevirtual 107, 3) := by decide +kernel
theorem dX9_chords_7 : decode cX9_chords 7 = .ok (.ireturn, 1) := by decide +kernel
theorem dX9_lineOf_0 : decode cX9_lineOf 0 = .ok (.aload_n 0, 1) := by decide +kernel
theorem dX9_lineOf_1 : decode cX9_lineOf 1 = .ok (.iload_n 1, 1) := by decide +kernel
theorem dX9_lineOf_2 : decode cX9_lineOf 2 = .ok (.invokevirtual 131, 3) := by decide +kernel
theorem dX9_lineOf_5 : decode cX9_lineOf 5 = .ok (.aload_n 0, 1) := by decide +kernel
theorem dX9_lineOf_6 : decode cX9_lineOf 6 = .ok (.getfield 22, 3) := by decide +kernel
theorem dX9_lineOf_9 : decode cX9_lineOf 9 = .ok (.iload_n 1, 1) := by decide +kernel
theorem dX9_lineOf_10 : decode cX9_lineOf 10 = .ok (.iconst 0, 1) := by decide +kernel
theorem dX9_lineOf_11 : decode cX9_lineOf 11 = .ok (.invokevirtual 134, 3) := by decide +kernel
theorem dX9_lineOf_14 : decode cX9_lineOf 14 = .ok (.ireturn, 1) := by decide +kernel
theorem dX9_columnOf_0 : decode cX9_columnOf 0 = .ok (.aload_n 0, 1) := by decide +kernel
theorem dX9_columnOf_1 : decode cX9_columnOf 1 = .ok (.iload_n 1, 1) := by decide +kernel
theorem dX9_columnOf_2 : decode cX9_columnOf 2 = .ok (.invokevirtual 131, 3) := by decide +kernel
theorem dX9_columnOf_5 : decode cX9_columnOf 5 = .ok (.aload_n 0, 1) := by decide +kernel
theorem dX9_columnOf_6 : decode cX9_columnOf 6 = .ok (.getfield 22, 3) := by decide +kernel
theorem dX9_columnOf_9 : decode cX9_columnOf 9 = .ok (.iload_n 1, 1) := by decide +kernel
theorem dX9_columnOf_10 : decode cX9_columnOf 10 = .ok (.iconst 1, 1) := by decide +kernel
theorem dX9_columnOf_11 : decode cX9_columnOf 11 = .ok (.invokevirtual 134, 3) := by decide +kernel
theorem dX9_columnOf_14 : decode cX9_columnOf 14 = .ok (.ireturn, 1) := by decide +kernel
theorem dX9_rootOf_0 : decode cX9_rootOf 0 = .ok (.aload_n 0, 1) := by decide +kernel
theorem dX9_rootOf_1 : decode cX9_rootOf 1 = .ok (.iload_n 1, 1) := by decide +kernel
theorem dX9_rootOf_2 : decode cX9_rootOf 2 = .ok (.invokevirtual 131, 3) := by decide +kernel
theorem dX9_rootOf_5 : decode cX9_rootOf 5 = .ok (.aload_n 0, 1) := by decide +kernel
theorem dX9_rootOf_6 : decode cX9_rootOf 6 = .ok (.getfield 22, 3) := by decide +kernel
theorem dX9_rootOf_9 : decode cX9_rootOf 9 = .ok (.iload_n 1, 1) := by decide +kernel
theorem dX9_rootOf_10 : decode cX9_rootOf 10 = .ok (.iconst 2, 1) := by decide +kernel
theorem dX9_rootOf_11 : decode cX9_rootOf 11 = .ok (.invokevirtual 134, 3) := by decide +kernel
theorem dX9_rootOf_14 : decode cX9_rootOf 14 = .ok (.ireturn, 1) := by decide +kernel
theorem dX9_qualityOf_0 : decode cX9_qualityOf 0 = .ok (.aload_n 0, 1) := by decide +kernel
theorem dX9_qualityOf_1 : decode cX9_qualityOf 1 = .ok (.iload_n 1, 1) := by decide +kernel
theorem dX9_qualityOf_2 : decode cX9_qualityOf 2 = .ok (.invokevirtual 131, 3) := by decide +kernel
theorem dX9_qualityOf_5 : decode cX9_qualityOf 5 = .ok (.aload_n 0, 1) := by decide +kernel
theorem dX9_qualityOf_6 : decode cX9_qualityOf 6 = .ok (.getfield 22, 3) := by decide +kernel
theorem dX9_qualityOf_9 : decode cX9_qualityOf 9 = .ok (.iload_n 1, 1) := by decide +kernel
theorem dX9_qualityOf_10 : decode cX9_qualityOf 10 = .ok (.iconst 3, 1) := by decide +kernel
theorem dX9_qualityOf_11 : decode cX9_qualityOf 11 = .ok (.invokevirtual 134, 3) := by decide +kernel
theorem dX9_qualityOf_14 : decode cX9_qualityOf 14 = .ok (.ireturn, 1) := by decide +kernel
theorem dX9_bassOf_0 : decode cX9_bassOf 0 = .ok (.aload_n 0, 1) := by decide +kernel
theorem dX9_bassOf_1 : decode cX9_bassOf 1 = .ok (.iload_n 1, 1) := by decide +kernel
theorem dX9_bassOf_2 : decode cX9_bassOf 2 = .ok (.invokevirtual 131, 3) := by decide +kernel
theorem dX9_bassOf_5 : decode cX9_bassOf 5 = .ok (.aload_n 0, 1) := by decide +kernel
theorem dX9_bassOf_6 : decode cX9_bassOf 6 = .ok (.getfield 22, 3) := by decide +kernel
theorem dX9_bassOf_9 : decode cX9_bassOf 9 = .ok (.iload_n 1, 1) := by decide +kernel
theorem dX9_bassOf_10 : decode cX9_bassOf 10 = .ok (.iconst 4, 1) := by decide +kernel
theorem dX9_bassOf_11 : decode cX9_bassOf 11 = .ok (.invokevirtual 134, 3) := by decide +kernel
theorem dX9_bassOf_14 : decode cX9_bassOf 14 = .ok (.ireturn, 1) := by decide +kernel
theorem dX9_nameChar_0 : decode cX9_nameChar 0 = .ok (.aload_n 0, 1) := by decide +kernel
theorem dX9_nameChar_1 : decode cX9_nameChar 1 = .ok (.iload_n 1, 1) := by decide +kernel
theorem dX9_nameChar_2 : decode cX9_nameChar 2 = .ok (.invokevirtual 131, 3) := by decide +kernel
theorem dX9_nameChar_5 : decode cX9_nameChar 5 = .ok (.aload_n 0, 1) := by decide +kernel
theorem dX9_nameChar_6 : decode cX9_nameChar 6 = .ok (.iload_n 2, 1) := by decide +kernel
theorem dX9_nameChar_7 : decode cX9_nameChar 7 = .ok (.invokevirtual 137, 3) := by decide +kernel
theorem dX9_nameChar_10 : decode cX9_nameChar 10 = .ok (.aload_n 0, 1) := by decide +kernel
theorem dX9_nameChar_11 : decode cX9_nameChar 11 = .ok (.getfield 16, 3) := by decide +kernel
theorem dX9_nameChar_14 : decode cX9_nameChar 14 = .ok (.iconst 0, 1) := by decide +kernel
theorem dX9_nameChar_15 : decode cX9_nameChar 15 = .ok (.invokevirtual 85, 3) := by decide +kernel
theorem dX9_nameChar_18 : decode cX9_nameChar 18 = .ok (.aload_n 0, 1) := by decide +kernel
theorem dX9_nameChar_19 : decode cX9_nameChar 19 = .ok (.getfield 22, 3) := by decide +kernel
theorem dX9_nameChar_22 : decode cX9_nameChar 22 = .ok (.iload_n 1, 1) := by decide +kernel
theorem dX9_nameChar_23 : decode cX9_nameChar 23 = .ok (.aload_n 0, 1) := by decide +kernel
theorem dX9_nameChar_24 : decode cX9_nameChar 24 = .ok (.getfield 16, 3) := by decide +kernel
theorem dX9_nameChar_27 : decode cX9_nameChar 27 = .ok (.invokevirtual 140, 3) := by decide +kernel
theorem dX9_nameChar_30 : decode cX9_nameChar 30 = .ok (.aload_n 0, 1) := by decide +kernel
theorem dX9_nameChar_31 : decode cX9_nameChar 31 = .ok (.getfield 16, 3) := by decide +kernel
theorem dX9_nameChar_34 : decode cX9_nameChar 34 = .ok (.iload_n 2, 1) := by decide +kernel
theorem dX9_nameChar_35 : decode cX9_nameChar 35 = .ok (.invokevirtual 144, 3) := by decide +kernel
theorem dX9_nameChar_38 : decode cX9_nameChar 38 = .ok (.ireturn, 1) := by decide +kernel
theorem dX9_addChord_0 : decode cX9_addChord 0 = .ok (.aload_n 0, 1) := by decide +kernel
theorem dX9_addChord_1 : decode cX9_addChord 1 = .ok (.iload_n 1, 1) := by decide +kernel
theorem dX9_addChord_2 : decode cX9_addChord 2 = .ok (.invokevirtual 115, 3) := by decide +kernel
theorem dX9_addChord_5 : decode cX9_addChord 5 = .ok (.aload_n 0, 1) := by decide +kernel
theorem dX9_addChord_6 : decode cX9_addChord 6 = .ok (.iload_n 1, 1) := by decide +kernel
theorem dX9_addChord_7 : decode cX9_addChord 7 = .ok (.iload_n 2, 1) := by decide +kernel
theorem dX9_addChord_8 : decode cX9_addChord 8 = .ok (.invokevirtual 163, 3) := by decide +kernel
theorem dX9_addChord_11 : decode cX9_addChord 11 = .ok (.aload_n 0, 1) := by decide +kernel
theorem dX9_addChord_12 : decode cX9_addChord 12 = .ok (.getfield 22, 3) := by decide +kernel
theorem dX9_addChord_15 : decode cX9_addChord 15 = .ok (.invokevirtual 107, 3) := by decide +kernel
theorem dX9_addChord_18 : decode cX9_addChord 18 = .ok (.bipush 40, 2) := by decide +kernel
theorem dX9_addChord_20 : decode cX9_addChord 20 = .ok (.if_icmp .lt 13, 3) := by decide +kernel
theorem dX9_addChord_23 : decode cX9_addChord 23 = .ok (.new 76, 3) := by decide +kernel
theorem dX9_addChord_26 : decode cX9_addChord 26 = .ok (.dup, 1) := by decide +kernel
theorem dX9_addChord_27 : decode cX9_addChord 27 = .ok (.ldc 167, 2) := by decide +kernel
theorem dX9_addChord_29 : decode cX9_addChord 29 = .ok (.invokespecial 80, 3) := by decide +kernel
theorem dX9_addChord_32 : decode cX9_addChord 32 = .ok (.athrow, 1) := by decide +kernel
theorem dX9_addChord_33 : decode cX9_addChord 33 = .ok (.aload_n 0, 1) := by decide +kernel
theorem dX9_addChord_34 : decode cX9_addChord 34 = .ok (.getfield 41, 3) := by decide +kernel
theorem dX9_addChord_37 : decode cX9_addChord 37 = .ok (.invokevirtual 147, 3) := by decide +kernel
theorem dX9_addChord_40 : decode cX9_addChord 40 = .ok (.istore_n 3, 1) := by decide +kernel
theorem dX9_addChord_41 : decode cX9_addChord 41 = .ok (.iload_n 3, 1) := by decide +kernel
theorem dX9_addChord_42 : decode cX9_addChord 42 = .ok (.iconst (-1), 1) := by decide +kernel
theorem dX9_addChord_43 : decode cX9_addChord 43 = .ok (.if_icmp .eq 7, 3) := by decide +kernel
theorem dX9_addChord_46 : decode cX9_addChord 46 = .ok (.iconst (-1), 1) := by decide +kernel
theorem dX9_addChord_47 : decode cX9_addChord 47 = .ok (.iload_n 3, 1) := by decide +kernel
theorem dX9_addChord_48 : decode cX9_addChord 48 = .ok (.isub, 1) := by decide +kernel
theorem dX9_addChord_49 : decode cX9_addChord 49 = .ok (.ireturn, 1) := by decide +kernel
theorem dX9_addChord_50 : decode cX9_addChord 50 = .ok (.aload_n 0, 1) := by decide +kernel
theorem dX9_addChord_51 : decode cX9_addChord 51 = .ok (.getfield 32, 3) := by decide +kernel
theorem dX9_addChord_54 : decode cX9_addChord 54 = .ok (.aload_n 0, 1) := by decide +kernel
theorem dX9_addChord_55 : decode cX9_addChord 55 = .ok (.getfield 22, 3) := by decide +kernel
theorem dX9_addChord_58 : decode cX9_addChord 58 = .ok (.invokevirtual 93, 3) := by decide +kernel
theorem dX9_addChord_61 : decode cX9_addChord 61 = .ok (.aload_n 0, 1) := by decide +kernel
theorem dX9_addChord_62 : decode cX9_addChord 62 = .ok (.getfield 10, 3) := by decide +kernel
theorem dX9_addChord_65 : decode cX9_addChord 65 = .ok (.iconst 0, 1) := by decide +kernel
theorem dX9_addChord_66 : decode cX9_addChord 66 = .ok (.invokevirtual 85, 3) := by decide +kernel
theorem dX9_addChord_69 : decode cX9_addChord 69 = .ok (.aload_n 0, 1) := by decide +kernel
theorem dX9_addChord_70 : decode cX9_addChord 70 = .ok (.getfield 22, 3) := by decide +kernel
theorem dX9_addChord_73 : decode cX9_addChord 73 = .ok (.iload_n 1, 1) := by decide +kernel
theorem dX9_addChord_74 : decode cX9_addChord 74 = .ok (.iload_n 2, 1) := by decide +kernel
theorem dX9_addChord_75 : decode cX9_addChord 75 = .ok (.aload_n 0, 1) := by decide +kernel
theorem dX9_addChord_76 : decode cX9_addChord 76 = .ok (.getfield 41, 3) := by decide +kernel
theorem dX9_addChord_79 : decode cX9_addChord 79 = .ok (.invokevirtual 150, 3) := by decide +kernel
theorem dX9_addChord_82 : decode cX9_addChord 82 = .ok (.aload_n 0, 1) := by decide +kernel
theorem dX9_addChord_83 : decode cX9_addChord 83 = .ok (.getfield 41, 3) := by decide +kernel
theorem dX9_addChord_86 : decode cX9_addChord 86 = .ok (.invokevirtual 153, 3) := by decide +kernel
theorem dX9_addChord_89 : decode cX9_addChord 89 = .ok (.aload_n 0, 1) := by decide +kernel
theorem dX9_addChord_90 : decode cX9_addChord 90 = .ok (.getfield 41, 3) := by decide +kernel
theorem dX9_addChord_93 : decode cX9_addChord 93 = .ok (.invokevirtual 156, 3) := by decide +kernel
theorem dX9_addChord_96 : decode cX9_addChord 96 = .ok (.invokevirtual 169, 3) := by decide +kernel
theorem dX9_addChord_99 : decode cX9_addChord 99 = .ok (.ireturn, 1) := by decide +kernel
theorem dX9_removeChord_0 : decode cX9_removeChord 0 = .ok (.aload_n 0, 1) := by decide +kernel
theorem dX9_removeChord_1 : decode cX9_removeChord 1 = .ok (.iload_n 1, 1) := by decide +kernel
theorem dX9_removeChord_2 : decode cX9_removeChord 2 = .ok (.invokevirtual 131, 3) := by decide +kernel
theorem dX9_removeChord_5 : decode cX9_removeChord 5 = .ok (.aload_n 0, 1) := by decide +kernel
theorem dX9_removeChord_6 : decode cX9_removeChord 6 = .ok (.getfield 32, 3) := by decide +kernel
theorem dX9_removeChord_9 : decode cX9_removeChord 9 = .ok (.aload_n 0, 1) := by decide +kernel
theorem dX9_removeChord_10 : decode cX9_removeChord 10 = .ok (.getfield 22, 3) := by decide +kernel
theorem dX9_removeChord_13 : decode cX9_removeChord 13 = .ok (.invokevirtual 93, 3) := by decide +kernel
theorem dX9_removeChord_16 : decode cX9_removeChord 16 = .ok (.aload_n 0, 1) := by decide +kernel
theorem dX9_removeChord_17 : decode cX9_removeChord 17 = .ok (.getfield 22, 3) := by decide +kernel
theorem dX9_removeChord_20 : decode cX9_removeChord 20 = .ok (.iload_n 1, 1) := by decide +kernel
theorem dX9_removeChord_21 : decode cX9_removeChord 21 = .ok (.invokevirtual 173, 3) := by decide +kernel
theorem dX9_removeChord_24 : decode cX9_removeChord 24 = .ok (.aload_n 0, 1) := by decide +kernel
theorem dX9_removeChord_25 : decode cX9_removeChord 25 = .ok (.getfield 22, 3) := by decide +kernel
theorem dX9_removeChord_28 : decode cX9_removeChord 28 = .ok (.invokevirtual 107, 3) := by decide +kernel
theorem dX9_removeChord_31 : decode cX9_removeChord 31 = .ok (.ireturn, 1) := by decide +kernel
theorem dX9_moveChord_0 : decode cX9_moveChord 0 = .ok (.aload_n 0, 1) := by decide +kernel
theorem dX9_moveChord_1 : decode cX9_moveChord 1 = .ok (.iload_n 1, 1) := by decide +kernel
theorem dX9_moveChord_2 : decode cX9_moveChord 2 = .ok (.invokevirtual 131, 3) := by decide +kernel
theorem dX9_moveChord_5 : decode cX9_moveChord 5 = .ok (.aload_n 0, 1) := by decide +kernel
theorem dX9_moveChord_6 : decode cX9_moveChord 6 = .ok (.getfield 22, 3) := by decide +kernel
theorem dX9_moveChord_9 : decode cX9_moveChord 9 = .ok (.iload_n 1, 1) := by decide +kernel
theorem dX9_moveChord_10 : decode cX9_moveChord 10 = .ok (.iconst 0, 1) := by decide +kernel
theorem dX9_moveChord_11 : decode cX9_moveChord 11 = .ok (.invokevirtual 134, 3) := by decide +kernel
theorem dX9_moveChord_14 : decode cX9_moveChord 14 = .ok (.istore_n 3, 1) := by decide +kernel
theorem dX9_moveChord_15 : decode cX9_moveChord 15 = .ok (.aload_n 0, 1) := by decide +kernel
theorem dX9_moveChord_16 : decode cX9_moveChord 16 = .ok (.iload_n 3, 1) := by decide +kernel
theorem dX9_moveChord_17 : decode cX9_moveChord 17 = .ok (.iload_n 2, 1) := by decide +kernel
theorem dX9_moveChord_18 : decode cX9_moveChord 18 = .ok (.invokevirtual 163, 3) := by decide +kernel
theorem dX9_moveChord_21 : decode cX9_moveChord 21 = .ok (.aload_n 0, 1) := by decide +kernel
theorem dX9_moveChord_22 : decode cX9_moveChord 22 = .ok (.getfield 32, 3) := by decide +kernel
theorem dX9_moveChord_25 : decode cX9_moveChord 25 = .ok (.aload_n 0, 1) := by decide +kernel
theorem dX9_moveChord_26 : decode cX9_moveChord 26 = .ok (.getfield 22, 3) := by decide +kernel
theorem dX9_moveChord_29 : decode cX9_moveChord 29 = .ok (.invokevirtual 93, 3) := by decide +kernel
theorem dX9_moveChord_32 : decode cX9_moveChord 32 = .ok (.aload_n 0, 1) := by decide +kernel
theorem dX9_moveChord_33 : decode cX9_moveChord 33 = .ok (.getfield 22, 3) := by decide +kernel
theorem dX9_moveChord_36 : decode cX9_moveChord 36 = .ok (.iload_n 1, 1) := by decide +kernel
theorem dX9_moveChord_37 : decode cX9_moveChord 37 = .ok (.iconst 2, 1) := by decide +kernel
theorem dX9_moveChord_38 : decode cX9_moveChord 38 = .ok (.invokevirtual 134, 3) := by decide +kernel
theorem dX9_moveChord_41 : decode cX9_moveChord 41 = .ok (.istore 4, 2) := by decide +kernel
theorem dX9_moveChord_43 : decode cX9_moveChord 43 = .ok (.aload_n 0, 1) := by decide +kernel
theorem dX9_moveChord_44 : decode cX9_moveChord 44 = .ok (.getfield 22, 3) := by decide +kernel
theorem dX9_moveChord_47 : decode cX9_moveChord 47 = .ok (.iload_n 1, 1) := by decide +kernel
theorem dX9_moveChord_48 : decode cX9_moveChord 48 = .ok (.iconst 3, 1) := by decide +kernel
theorem dX9_moveChord_49 : decode cX9_moveChord 49 = .ok (.invokevirtual 134, 3) := by decide +kernel
theorem dX9_moveChord_52 : decode cX9_moveChord 52 = .ok (.istore 5, 2) := by decide +kernel
theorem dX9_moveChord_54 : decode cX9_moveChord 54 = .ok (.aload_n 0, 1) := by decide +kernel
theorem dX9_moveChord_55 : decode cX9_moveChord 55 = .ok (.getfield 22, 3) := by decide +kernel
theorem dX9_moveChord_58 : decode cX9_moveChord 58 = .ok (.iload_n 1, 1) := by decide +kernel
theorem dX9_moveChord_59 : decode cX9_moveChord 59 = .ok (.iconst 4, 1) := by decide +kernel
theorem dX9_moveChord_60 : decode cX9_moveChord 60 = .ok (.invokevirtual 134, 3) := by decide +kernel
theorem dX9_moveChord_63 : decode cX9_moveChord 63 = .ok (.istore 6, 2) := by decide +kernel
theorem dX9_moveChord_65 : decode cX9_moveChord 65 = .ok (.aload_n 0, 1) := by decide +kernel
theorem dX9_moveChord_66 : decode cX9_moveChord 66 = .ok (.getfield 22, 3) := by decide +kernel
theorem dX9_moveChord_69 : decode cX9_moveChord 69 = .ok (.iload_n 1, 1) := by decide +kernel
theorem dX9_moveChord_70 : decode cX9_moveChord 70 = .ok (.invokevirtual 173, 3) := by decide +kernel
theorem dX9_moveChord_73 : decode cX9_moveChord 73 = .ok (.aload_n 0, 1) := by decide +kernel
theorem dX9_moveChord_74 : decode cX9_moveChord 74 = .ok (.getfield 22, 3) := by decide +kernel
theorem dX9_moveChord_77 : decode cX9_moveChord 77 = .ok (.iload_n 3, 1) := by decide +kernel
theorem dX9_moveChord_78 : decode cX9_moveChord 78 = .ok (.iload_n 2, 1) := by decide +kernel
theorem dX9_moveChord_79 : decode cX9_moveChord 79 = .ok (.iload 4, 2) := by decide +kernel
theorem dX9_moveChord_81 : decode cX9_moveChord 81 = .ok (.iload 5, 2) := by decide +kernel
theorem dX9_moveChord_83 : decode cX9_moveChord 83 = .ok (.iload 6, 2) := by decide +kernel
theorem dX9_moveChord_85 : decode cX9_moveChord 85 = .ok (.invokevirtual 169, 3) := by decide +kernel
theorem dX9_moveChord_88 : decode cX9_moveChord 88 = .ok (.ireturn, 1) := by decide +kernel
theorem dX9_commonTones_0 : decode cX9_commonTones 0 = .ok (.iload_n 1, 1) := by decide +kernel
theorem dX9_commonTones_1 : decode cX9_commonTones 1 = .ok (.ifCond .lt 16, 3) := by decide +kernel
theorem dX9_commonTones_4 : decode cX9_commonTones 4 = .ok (.iload_n 1, 1) := by decide +kernel
theorem dX9_commonTones_5 : decode cX9_commonTones 5 = .ok (.aload_n 0, 1) := by decide +kernel
theorem dX9_commonTones_6 : decode cX9_commonTones 6 = .ok (.getfield 22, 3) := by decide +kernel
theorem dX9_commonTones_9 : decode cX9_commonTones 9 = .ok (.invokevirtual 107, 3) := by decide +kernel
theorem dX9_commonTones_12 : decode cX9_commonTones 12 = .ok (.iconst 1, 1) := by decide +kernel
theorem dX9_commonTones_13 : decode cX9_commonTones 13 = .ok (.isub, 1) := by decide +kernel
theorem dX9_commonTones_14 : decode cX9_commonTones 14 = .ok (.if_icmp .lt 13, 3) := by decide +kernel
theorem dX9_commonTones_17 : decode cX9_commonTones 17 = .ok (.new 122, 3) := by decide +kernel
theorem dX9_commonTones_20 : decode cX9_commonTones 20 = .ok (.dup, 1) := by decide +kernel
theorem dX9_commonTones_21 : decode cX9_commonTones 21 = .ok (.ldc 176, 2) := by decide +kernel
theorem dX9_commonTones_23 : decode cX9_commonTones 23 = .ok (.invokespecial 126, 3) := by decide +kernel
theorem dX9_commonTones_26 : decode cX9_commonTones 26 = .ok (.athrow, 1) := by decide +kernel
theorem dX9_commonTones_27 : decode cX9_commonTones 27 = .ok (.aload_n 0, 1) := by decide +kernel
theorem dX9_commonTones_28 : decode cX9_commonTones 28 = .ok (.getfield 22, 3) := by decide +kernel
theorem dX9_commonTones_31 : decode cX9_commonTones 31 = .ok (.iload_n 1, 1) := by decide +kernel
theorem dX9_commonTones_32 : decode cX9_commonTones 32 = .ok (.invokevirtual 178, 3) := by decide +kernel
theorem dX9_commonTones_35 : decode cX9_commonTones 35 = .ok (.aload_n 0, 1) := by decide +kernel
theorem dX9_commonTones_36 : decode cX9_commonTones 36 = .ok (.getfield 22, 3) := by decide +kernel
theorem dX9_commonTones_39 : decode cX9_commonTones 39 = .ok (.iload_n 1, 1) := by decide +kernel
theorem dX9_commonTones_40 : decode cX9_commonTones 40 = .ok (.iconst 1, 1) := by decide +kernel
theorem dX9_commonTones_41 : decode cX9_commonTones 41 = .ok (.iadd, 1) := by decide +kernel
theorem dX9_commonTones_42 : decode cX9_commonTones 42 = .ok (.invokevirtual 178, 3) := by decide +kernel
theorem dX9_commonTones_45 : decode cX9_commonTones 45 = .ok (.iand, 1) := by decide +kernel
theorem dX9_commonTones_46 : decode cX9_commonTones 46 = .ok (.invokestatic 181, 3) := by decide +kernel
theorem dX9_commonTones_49 : decode cX9_commonTones 49 = .ok (.ireturn, 1) := by decide +kernel
theorem dX9_degree_0 : decode cX9_degree 0 = .ok (.aload_n 0, 1) := by decide +kernel
theorem dX9_degree_1 : decode cX9_degree 1 = .ok (.iload_n 1, 1) := by decide +kernel
theorem dX9_degree_2 : decode cX9_degree 2 = .ok (.invokevirtual 131, 3) := by decide +kernel
theorem dX9_degree_5 : decode cX9_degree 5 = .ok (.aload_n 0, 1) := by decide +kernel
theorem dX9_degree_6 : decode cX9_degree 6 = .ok (.getfield 22, 3) := by decide +kernel
theorem dX9_degree_9 : decode cX9_degree 9 = .ok (.iload_n 1, 1) := by decide +kernel
theorem dX9_degree_10 : decode cX9_degree 10 = .ok (.iconst 2, 1) := by decide +kernel
theorem dX9_degree_11 : decode cX9_degree 11 = .ok (.invokevirtual 134, 3) := by decide +kernel
theorem dX9_degree_14 : decode cX9_degree 14 = .ok (.invokestatic 186, 3) := by decide +kernel
theorem dX9_degree_17 : decode cX9_degree 17 = .ok (.istore_n 2, 1) := by decide +kernel
theorem dX9_degree_18 : decode cX9_degree 18 = .ok (.iload_n 2, 1) := by decide +kernel
theorem dX9_degree_19 : decode cX9_degree 19 = .ok (.aload_n 0, 1) := by decide +kernel
theorem dX9_degree_20 : decode cX9_degree 20 = .ok (.getfield 22, 3) := by decide +kernel
theorem dX9_degree_23 : decode cX9_degree 23 = .ok (.getfield 191, 3) := by decide +kernel
theorem dX9_degree_26 : decode cX9_degree 26 = .ok (.aload_n 0, 1) := by decide +kernel
theorem dX9_degree_27 : decode cX9_degree 27 = .ok (.getfield 22, 3) := by decide +kernel
theorem dX9_degree_30 : decode cX9_degree 30 = .ok (.getfield 194, 3) := by decide +kernel
theorem dX9_degree_33 : decode cX9_degree 33 = .ok (.invokestatic 197, 3) := by decide +kernel
theorem dX9_degree_36 : decode cX9_degree 36 = .ok (.ireturn, 1) := by decide +kernel
theorem dX9_tonic_0 : decode cX9_tonic 0 = .ok (.aload_n 0, 1) := by decide +kernel
theorem dX9_tonic_1 : decode cX9_tonic 1 = .ok (.getfield 22, 3) := by decide +kernel
theorem dX9_tonic_4 : decode cX9_tonic 4 = .ok (.getfield 191, 3) := by decide +kernel
theorem dX9_tonic_7 : decode cX9_tonic 7 = .ok (.aload_n 0, 1) := by decide +kernel
theorem dX9_tonic_8 : decode cX9_tonic 8 = .ok (.getfield 22, 3) := by decide +kernel
theorem dX9_tonic_11 : decode cX9_tonic 11 = .ok (.getfield 194, 3) := by decide +kernel
theorem dX9_tonic_14 : decode cX9_tonic 14 = .ok (.invokestatic 201, 3) := by decide +kernel
theorem dX9_tonic_17 : decode cX9_tonic 17 = .ok (.ireturn, 1) := by decide +kernel
theorem dX9_isMinor_0 : decode cX9_isMinor 0 = .ok (.aload_n 0, 1) := by decide +kernel
theorem dX9_isMinor_1 : decode cX9_isMinor 1 = .ok (.getfield 22, 3) := by decide +kernel
theorem dX9_isMinor_4 : decode cX9_isMinor 4 = .ok (.getfield 194, 3) := by decide +kernel
theorem dX9_isMinor_7 : decode cX9_isMinor 7 = .ok (.ireturn, 1) := by decide +kernel
theorem dX9_signature_0 : decode cX9_signature 0 = .ok (.aload_n 0, 1) := by decide +kernel
theorem dX9_signature_1 : decode cX9_signature 1 = .ok (.getfield 22, 3) := by decide +kernel
theorem dX9_signature_4 : decode cX9_signature 4 = .ok (.getfield 191, 3) := by decide +kernel
theorem dX9_signature_7 : decode cX9_signature 7 = .ok (.ireturn, 1) := by decide +kernel
theorem dX9_setKey_0 : decode cX9_setKey 0 = .ok (.aload_n 0, 1) := by decide +kernel
theorem dX9_setKey_1 : decode cX9_setKey 1 = .ok (.iload_n 1, 1) := by decide +kernel
theorem dX9_setKey_2 : decode cX9_setKey 2 = .ok (.iload_n 2, 1) := by decide +kernel
theorem dX9_setKey_3 : decode cX9_setKey 3 = .ok (.invokevirtual 205, 3) := by decide +kernel
theorem dX9_setKey_6 : decode cX9_setKey 6 = .ok (.aload_n 0, 1) := by decide +kernel
theorem dX9_setKey_7 : decode cX9_setKey 7 = .ok (.getfield 32, 3) := by decide +kernel
theorem dX9_setKey_10 : decode cX9_setKey 10 = .ok (.aload_n 0, 1) := by decide +kernel
theorem dX9_setKey_11 : decode cX9_setKey 11 = .ok (.getfield 22, 3) := by decide +kernel
theorem dX9_setKey_14 : decode cX9_setKey 14 = .ok (.invokevirtual 93, 3) := by decide +kernel
theorem dX9_setKey_17 : decode cX9_setKey 17 = .ok (.aload_n 0, 1) := by decide +kernel
theorem dX9_setKey_18 : decode cX9_setKey 18 = .ok (.getfield 22, 3) := by decide +kernel
theorem dX9_setKey_21 : decode cX9_setKey 21 = .ok (.getfield 191, 3) := by decide +kernel
theorem dX9_setKey_24 : decode cX9_setKey 24 = .ok (.istore_n 3, 1) := by decide +kernel
theorem dX9_setKey_25 : decode cX9_setKey 25 = .ok (.aload_n 0, 1) := by decide +kernel
theorem dX9_setKey_26 : decode cX9_setKey 26 = .ok (.getfield 22, 3) := by decide +kernel
theorem dX9_setKey_29 : decode cX9_setKey 29 = .ok (.iload_n 1, 1) := by decide +kernel
theorem dX9_setKey_30 : decode cX9_setKey 30 = .ok (.iload_n 2, 1) := by decide +kernel
theorem dX9_setKey_31 : decode cX9_setKey 31 = .ok (.invokestatic 209, 3) := by decide +kernel
theorem dX9_setKey_34 : decode cX9_setKey 34 = .ok (.putfield 191, 3) := by decide +kernel
theorem dX9_setKey_37 : decode cX9_setKey 37 = .ok (.aload_n 0, 1) := by decide +kernel
theorem dX9_setKey_38 : decode cX9_setKey 38 = .ok (.getfield 22, 3) := by decide +kernel
theorem dX9_setKey_41 : decode cX9_setKey 41 = .ok (.iload_n 2, 1) := by decide +kernel
theorem dX9_setKey_42 : decode cX9_setKey 42 = .ok (.putfield 194, 3) := by decide +kernel
theorem dX9_setKey_45 : decode cX9_setKey 45 = .ok (.iload_n 3, 1) := by decide +kernel
theorem dX9_setKey_46 : decode cX9_setKey 46 = .ok (.ireturn, 1) := by decide +kernel
theorem dX9_score_0 : decode cX9_score 0 = .ok (.aload_n 0, 1) := by decide +kernel
theorem dX9_score_1 : decode cX9_score 1 = .ok (.iload_n 1, 1) := by decide +kernel
theorem dX9_score_2 : decode cX9_score 2 = .ok (.iload_n 2, 1) := by decide +kernel
theorem dX9_score_3 : decode cX9_score 3 = .ok (.invokevirtual 205, 3) := by decide +kernel
theorem dX9_score_6 : decode cX9_score 6 = .ok (.aload_n 0, 1) := by decide +kernel
theorem dX9_score_7 : decode cX9_score 7 = .ok (.getfield 22, 3) := by decide +kernel
theorem dX9_score_10 : decode cX9_score 10 = .ok (.iload_n 1, 1) := by decide +kernel
theorem dX9_score_11 : decode cX9_score 11 = .ok (.iload_n 2, 1) := by decide +kernel
theorem dX9_score_12 : decode cX9_score 12 = .ok (.invokestatic 209, 3) := by decide +kernel
theorem dX9_score_15 : decode cX9_score 15 = .ok (.iload_n 2, 1) := by decide +kernel
theorem dX9_score_16 : decode cX9_score 16 = .ok (.invokestatic 212, 3) := by decide +kernel
theorem dX9_score_19 : decode cX9_score 19 = .ok (.ireturn, 1) := by decide +kernel
theorem dX9_findKey_0 : decode cX9_findKey 0 = .ok (.aload_n 0, 1) := by decide +kernel
theorem dX9_findKey_1 : decode cX9_findKey 1 = .ok (.getfield 22, 3) := by decide +kernel
theorem dX9_findKey_4 : decode cX9_findKey 4 = .ok (.invokestatic 99, 3) := by decide +kernel
theorem dX9_findKey_7 : decode cX9_findKey 7 = .ok (.ireturn, 1) := by decide +kernel
theorem dX9_transpose_0 : decode cX9_transpose 0 = .ok (.iload_n 1, 1) := by decide +kernel
theorem dX9_transpose_1 : decode cX9_transpose 1 = .ok (.bipush (-11), 2) := by decide +kernel
theorem dX9_transpose_3 : decode cX9_transpose 3 = .ok (.if_icmp .lt 9, 3) := by decide +kernel
theorem dX9_transpose_6 : decode cX9_transpose 6 = .ok (.iload_n 1, 1) := by decide +kernel
theorem dX9_transpose_7 : decode cX9_transpose 7 = .ok (.bipush 11, 2) := by decide +kernel
theorem dX9_transpose_9 : decode cX9_transpose 9 = .ok (.if_icmp .le 13, 3) := by decide +kernel
theorem dX9_transpose_12 : decode cX9_transpose 12 = .ok (.new 65, 3) := by decide +kernel
theorem dX9_transpose_15 : decode cX9_transpose 15 = .ok (.dup, 1) := by decide +kernel
theorem dX9_transpose_16 : decode cX9_transpose 16 = .ok (.ldc 216, 2) := by decide +kernel
theorem dX9_transpose_18 : decode cX9_transpose 18 = .ok (.invokespecial 69, 3) := by decide +kernel
theorem dX9_transpose_21 : decode cX9_transpose 21 = .ok (.athrow, 1) := by decide +kernel
theorem dX9_transpose_22 : decode cX9_transpose 22 = .ok (.aload_n 0, 1) := by decide +kernel
theorem dX9_transpose_23 : decode cX9_transpose 23 = .ok (.getfield 32, 3) := by decide +kernel
theorem dX9_transpose_26 : decode cX9_transpose 26 = .ok (.aload_n 0, 1) := by decide +kernel
theorem dX9_transpose_27 : decode cX9_transpose 27 = .ok (.getfield 22, 3) := by decide +kernel
theorem dX9_transpose_30 : decode cX9_transpose 30 = .ok (.invokevirtual 93, 3) := by decide +kernel
theorem dX9_transpose_33 : decode cX9_transpose 33 = .ok (.aload_n 0, 1) := by decide +kernel
theorem dX9_transpose_34 : decode cX9_transpose 34 = .ok (.invokevirtual 218, 3) := by decide +kernel
theorem dX9_transpose_37 : decode cX9_transpose 37 = .ok (.iload_n 1, 1) := by decide +kernel
theorem dX9_transpose_38 : decode cX9_transpose 38 = .ok (.invokestatic 221, 3) := by decide +kernel
theorem dX9_transpose_41 : decode cX9_transpose 41 = .ok (.istore_n 2, 1) := by decide +kernel
theorem dX9_transpose_42 : decode cX9_transpose 42 = .ok (.aload_n 0, 1) := by decide +kernel
theorem dX9_transpose_43 : decode cX9_transpose 43 = .ok (.getfield 22, 3) := by decide +kernel
theorem dX9_transpose_46 : decode cX9_transpose 46 = .ok (.iload_n 2, 1) := by decide +kernel
theorem dX9_transpose_47 : decode cX9_transpose 47 = .ok (.aload_n 0, 1) := by decide +kernel
theorem dX9_transpose_48 : decode cX9_transpose 48 = .ok (.getfield 22, 3) := by decide +kernel
theorem dX9_transpose_51 : decode cX9_transpose 51 = .ok (.getfield 194, 3) := by decide +kernel
theorem dX9_transpose_54 : decode cX9_transpose 54 = .ok (.aload_n 0, 1) := by decide +kernel
theorem dX9_transpose_55 : decode cX9_transpose 55 = .ok (.getfield 58, 3) := by decide +kernel
theorem dX9_transpose_58 : decode cX9_transpose 58 = .ok (.invokestatic 224, 3) := by decide +kernel
theorem dX9_transpose_61 : decode cX9_transpose 61 = .ok (.putfield 191, 3) := by decide +kernel
theorem dX9_transpose_64 : decode cX9_transpose 64 = .ok (.aload_n 0, 1) := by decide +kernel
theorem dX9_transpose_65 : decode cX9_transpose 65 = .ok (.getfield 22, 3) := by decide +kernel
theorem dX9_transpose_68 : decode cX9_transpose 68 = .ok (.iload_n 1, 1) := by decide +kernel
theorem dX9_transpose_69 : decode cX9_transpose 69 = .ok (.aload_n 0, 1) := by decide +kernel
theorem dX9_transpose_70 : decode cX9_transpose 70 = .ok (.getfield 54, 3) := by decide +kernel
theorem dX9_transpose_73 : decode cX9_transpose 73 = .ok (.invokevirtual 228, 3) := by decide +kernel
theorem dX9_transpose_76 : decode cX9_transpose 76 = .ok (.pop, 1) := by decide +kernel
theorem dX9_transpose_77 : decode cX9_transpose 77 = .ok (.aload_n 0, 1) := by decide +kernel
theorem dX9_transpose_78 : decode cX9_transpose 78 = .ok (.getfield 22, 3) := by decide +kernel
theorem dX9_transpose_81 : decode cX9_transpose 81 = .ok (.getfield 191, 3) := by decide +kernel
theorem dX9_transpose_84 : decode cX9_transpose 84 = .ok (.ireturn, 1) := by decide +kernel
theorem dX9_respell_0 : decode cX9_respell 0 = .ok (.aload_n 0, 1) := by decide +kernel
theorem dX9_respell_1 : decode cX9_respell 1 = .ok (.getfield 32, 3) := by decide +kernel
theorem dX9_respell_4 : decode cX9_respell 4 = .ok (.aload_n 0, 1) := by decide +kernel
theorem dX9_respell_5 : decode cX9_respell 5 = .ok (.getfield 22, 3) := by decide +kernel
theorem dX9_respell_8 : decode cX9_respell 8 = .ok (.invokevirtual 93, 3) := by decide +kernel
theorem dX9_respell_11 : decode cX9_respell 11 = .ok (.aload_n 0, 1) := by decide +kernel
theorem dX9_respell_12 : decode cX9_respell 12 = .ok (.getfield 22, 3) := by decide +kernel
theorem dX9_respell_15 : decode cX9_respell 15 = .ok (.iconst 0, 1) := by decide +kernel
theorem dX9_respell_16 : decode cX9_respell 16 = .ok (.aload_n 0, 1) := by decide +kernel
theorem dX9_respell_17 : decode cX9_respell 17 = .ok (.getfield 54, 3) := by decide +kernel
theorem dX9_respell_20 : decode cX9_respell 20 = .ok (.invokevirtual 228, 3) := by decide +kernel
theorem dX9_respell_23 : decode cX9_respell 23 = .ok (.ireturn, 1) := by decide +kernel
theorem dX9_difficulty_0 : decode cX9_difficulty 0 = .ok (.iload_n 1, 1) := by decide +kernel
theorem dX9_difficulty_1 : decode cX9_difficulty 1 = .ok (.ifCond .lt 9, 3) := by decide +kernel
theorem dX9_difficulty_4 : decode cX9_difficulty 4 = .ok (.iload_n 1, 1) := by decide +kernel
theorem dX9_difficulty_5 : decode cX9_difficulty 5 = .ok (.bipush 7, 2) := by decide +kernel
theorem dX9_difficulty_7 : decode cX9_difficulty 7 = .ok (.if_icmp .le 13, 3) := by decide +kernel
theorem dX9_difficulty_10 : decode cX9_difficulty 10 = .ok (.new 65, 3) := by decide +kernel
theorem dX9_difficulty_13 : decode cX9_difficulty 13 = .ok (.dup, 1) := by decide +kernel
theorem dX9_difficulty_14 : decode cX9_difficulty 14 = .ok (.ldc 231, 2) := by decide +kernel
theorem dX9_difficulty_16 : decode cX9_difficulty 16 = .ok (.invokespecial 69, 3) := by decide +kernel
theorem dX9_difficulty_19 : decode cX9_difficulty 19 = .ok (.athrow, 1) := by decide +kernel
theorem dX9_difficulty_20 : decode cX9_difficulty 20 = .ok (.aload_n 0, 1) := by decide +kernel
theorem dX9_difficulty_21 : decode cX9_difficulty 21 = .ok (.getfield 22, 3) := by decide +kernel
theorem dX9_difficulty_24 : decode cX9_difficulty 24 = .ok (.iload_n 1, 1) := by decide +kernel
theorem dX9_difficulty_25 : decode cX9_difficulty 25 = .ok (.invokestatic 233, 3) := by decide +kernel
theorem dX9_difficulty_28 : decode cX9_difficulty 28 = .ok (.ireturn, 1) := by decide +kernel
theorem dX9_bestCapo_0 : decode cX9_bestCapo 0 = .ok (.aload_n 0, 1) := by decide +kernel
theorem dX9_bestCapo_1 : decode cX9_bestCapo 1 = .ok (.getfield 22, 3) := by decide +kernel
theorem dX9_bestCapo_4 : decode cX9_bestCapo 4 = .ok (.invokestatic 239, 3) := by decide +kernel
theorem dX9_bestCapo_7 : decode cX9_bestCapo 7 = .ok (.ireturn, 1) := by decide +kernel
theorem dX9_pairs_0 : decode cX9_pairs 0 = .ok (.aload_n 0, 1) := by decide +kernel
theorem dX9_pairs_1 : decode cX9_pairs 1 = .ok (.iload_n 1, 1) := by decide +kernel
theorem dX9_pairs_2 : decode cX9_pairs 2 = .ok (.invokevirtual 115, 3) := by decide +kernel
theorem dX9_pairs_5 : decode cX9_pairs 5 = .ok (.aload_n 0, 1) := by decide +kernel
theorem dX9_pairs_6 : decode cX9_pairs 6 = .ok (.getfield 50, 3) := by decide +kernel
theorem dX9_pairs_9 : decode cX9_pairs 9 = .ok (.iload_n 1, 1) := by decide +kernel
theorem dX9_pairs_10 : decode cX9_pairs 10 = .ok (.aload_n 0, 1) := by decide +kernel
theorem dX9_pairs_11 : decode cX9_pairs 11 = .ok (.getfield 61, 3) := by decide +kernel
theorem dX9_pairs_14 : decode cX9_pairs 14 = .ok (.invokevirtual 242, 3) := by decide +kernel
theorem dX9_pairs_17 : decode cX9_pairs 17 = .ok (.ireturn, 1) := by decide +kernel
theorem dX9_rowLength_0 : decode cX9_rowLength 0 = .ok (.aload_n 0, 1) := by decide +kernel
theorem dX9_rowLength_1 : decode cX9_rowLength 1 = .ok (.getfield 50, 3) := by decide +kernel
theorem dX9_rowLength_4 : decode cX9_rowLength 4 = .ok (.iload_n 1, 1) := by decide +kernel
theorem dX9_rowLength_5 : decode cX9_rowLength 5 = .ok (.iload_n 2, 1) := by decide +kernel
theorem dX9_rowLength_6 : decode cX9_rowLength 6 = .ok (.iload_n 3, 1) := by decide +kernel
theorem dX9_rowLength_7 : decode cX9_rowLength 7 = .ok (.aload_n 0, 1) := by decide +kernel
theorem dX9_rowLength_8 : decode cX9_rowLength 8 = .ok (.getfield 61, 3) := by decide +kernel
theorem dX9_rowLength_11 : decode cX9_rowLength 11 = .ok (.invokevirtual 245, 3) := by decide +kernel
theorem dX9_rowLength_14 : decode cX9_rowLength 14 = .ok (.astore 4, 2) := by decide +kernel
theorem dX9_rowLength_16 : decode cX9_rowLength 16 = .ok (.aload 4, 2) := by decide +kernel
theorem dX9_rowLength_18 : decode cX9_rowLength 18 = .ok (.ifnonnull 13, 3) := by decide +kernel
theorem dX9_rowLength_21 : decode cX9_rowLength 21 = .ok (.new 122, 3) := by decide +kernel
theorem dX9_rowLength_24 : decode cX9_rowLength 24 = .ok (.dup, 1) := by decide +kernel
theorem dX9_rowLength_25 : decode cX9_rowLength 25 = .ok (.ldc 249, 2) := by decide +kernel
theorem dX9_rowLength_27 : decode cX9_rowLength 27 = .ok (.invokespecial 126, 3) := by decide +kernel
theorem dX9_rowLength_30 : decode cX9_rowLength 30 = .ok (.athrow, 1) := by decide +kernel
theorem dX9_rowLength_31 : decode cX9_rowLength 31 = .ok (.aload 4, 2) := by decide +kernel
theorem dX9_rowLength_33 : decode cX9_rowLength 33 = .ok (.invokevirtual 72, 3) := by decide +kernel
theorem dX9_rowLength_36 : decode cX9_rowLength 36 = .ok (.ireturn, 1) := by decide +kernel
theorem dX9_rowChar_0 : decode cX9_rowChar 0 = .ok (.aload_n 0, 1) := by decide +kernel
theorem dX9_rowChar_1 : decode cX9_rowChar 1 = .ok (.getfield 50, 3) := by decide +kernel
theorem dX9_rowChar_4 : decode cX9_rowChar 4 = .ok (.iload_n 1, 1) := by decide +kernel
theorem dX9_rowChar_5 : decode cX9_rowChar 5 = .ok (.iload_n 2, 1) := by decide +kernel
theorem dX9_rowChar_6 : decode cX9_rowChar 6 = .ok (.iload_n 3, 1) := by decide +kernel
theorem dX9_rowChar_7 : decode cX9_rowChar 7 = .ok (.aload_n 0, 1) := by decide +kernel
theorem dX9_rowChar_8 : decode cX9_rowChar 8 = .ok (.getfield 61, 3) := by decide +kernel
theorem dX9_rowChar_11 : decode cX9_rowChar 11 = .ok (.invokevirtual 245, 3) := by decide +kernel
theorem dX9_rowChar_14 : decode cX9_rowChar 14 = .ok (.astore 5, 2) := by decide +kernel
theorem dX9_rowChar_16 : decode cX9_rowChar 16 = .ok (.aload 5, 2) := by decide +kernel
theorem dX9_rowChar_18 : decode cX9_rowChar 18 = .ok (.ifnonnull 13, 3) := by decide +kernel
theorem dX9_rowChar_21 : decode cX9_rowChar 21 = .ok (.new 122, 3) := by decide +kernel
theorem dX9_rowChar_24 : decode cX9_rowChar 24 = .ok (.dup, 1) := by decide +kernel
theorem dX9_rowChar_25 : decode cX9_rowChar 25 = .ok (.ldc 249, 2) := by decide +kernel
theorem dX9_rowChar_27 : decode cX9_rowChar 27 = .ok (.invokespecial 126, 3) := by decide +kernel
theorem dX9_rowChar_30 : decode cX9_rowChar 30 = .ok (.athrow, 1) := by decide +kernel
theorem dX9_rowChar_31 : decode cX9_rowChar 31 = .ok (.aload_n 0, 1) := by decide +kernel
theorem dX9_rowChar_32 : decode cX9_rowChar 32 = .ok (.iload 4, 2) := by decide +kernel
theorem dX9_rowChar_34 : decode cX9_rowChar 34 = .ok (.invokevirtual 137, 3) := by decide +kernel
theorem dX9_rowChar_37 : decode cX9_rowChar 37 = .ok (.aload 5, 2) := by decide +kernel
theorem dX9_rowChar_39 : decode cX9_rowChar 39 = .ok (.iload 4, 2) := by decide +kernel
theorem dX9_rowChar_41 : decode cX9_rowChar 41 = .ok (.invokevirtual 144, 3) := by decide +kernel
theorem dX9_rowChar_44 : decode cX9_rowChar 44 = .ok (.ireturn, 1) := by decide +kernel
theorem dX9_undo_0 : decode cX9_undo 0 = .ok (.aload_n 0, 1) := by decide +kernel
theorem dX9_undo_1 : decode cX9_undo 1 = .ok (.getfield 32, 3) := by decide +kernel
theorem dX9_undo_4 : decode cX9_undo 4 = .ok (.invokevirtual 251, 3) := by decide +kernel
theorem dX9_undo_7 : decode cX9_undo 7 = .ok (.ifCond .eq 13, 3) := by decide +kernel
theorem dX9_undo_10 : decode cX9_undo 10 = .ok (.new 76, 3) := by decide +kernel
theorem dX9_undo_13 : decode cX9_undo 13 = .ok (.dup, 1) := by decide +kernel
theorem dX9_undo_14 : decode cX9_undo 14 = .ok (.ldc 255, 2) := by decide +kernel
theorem dX9_undo_16 : decode cX9_undo 16 = .ok (.invokespecial 80, 3) := by decide +kernel
theorem dX9_undo_19 : decode cX9_undo 19 = .ok (.athrow, 1) := by decide +kernel
theorem dX9_undo_20 : decode cX9_undo 20 = .ok (.aload_n 0, 1) := by decide +kernel
theorem dX9_undo_21 : decode cX9_undo 21 = .ok (.getfield 32, 3) := by decide +kernel
theorem dX9_undo_24 : decode cX9_undo 24 = .ok (.aload_n 0, 1) := by decide +kernel
theorem dX9_undo_25 : decode cX9_undo 25 = .ok (.getfield 22, 3) := by decide +kernel
theorem dX9_undo_28 : decode cX9_undo 28 = .ok (.invokevirtual 257, 3) := by decide +kernel
theorem dX9_undo_31 : decode cX9_undo 31 = .ok (.ireturn, 1) := by decide +kernel
theorem dX9_fingerprint_0 : decode cX9_fingerprint 0 = .ok (.aload_n 0, 1) := by decide +kernel
theorem dX9_fingerprint_1 : decode cX9_fingerprint 1 = .ok (.getfield 22, 3) := by decide +kernel
theorem dX9_fingerprint_4 : decode cX9_fingerprint 4 = .ok (.ldc2_w 260, 3) := by decide +kernel
theorem dX9_fingerprint_7 : decode cX9_fingerprint 7 = .ok (.invokevirtual 262, 3) := by decide +kernel
theorem dX9_fingerprint_10 : decode cX9_fingerprint 10 = .ok (.lstore_n 1, 1) := by decide +kernel
theorem dX9_fingerprint_11 : decode cX9_fingerprint 11 = .ok (.ldc2_w 266, 3) := by decide +kernel
theorem dX9_fingerprint_14 : decode cX9_fingerprint 14 = .ok (.lload_n 1, 1) := by decide +kernel
theorem dX9_fingerprint_15 : decode cX9_fingerprint 15 = .ok (.lmul, 1) := by decide +kernel
theorem dX9_fingerprint_16 : decode cX9_fingerprint 16 = .ok (.aload_n 0, 1) := by decide +kernel
theorem dX9_fingerprint_17 : decode cX9_fingerprint 17 = .ok (.invokevirtual 218, 3) := by decide +kernel
theorem dX9_fingerprint_20 : decode cX9_fingerprint 20 = .ok (.i2l, 1) := by decide +kernel
theorem dX9_fingerprint_21 : decode cX9_fingerprint 21 = .ok (.ladd, 1) := by decide +kernel
theorem dX9_fingerprint_22 : decode cX9_fingerprint 22 = .ok (.lstore_n 1, 1) := by decide +kernel
theorem dX9_fingerprint_23 : decode cX9_fingerprint 23 = .ok (.ldc2_w 266, 3) := by decide +kernel
theorem dX9_fingerprint_26 : decode cX9_fingerprint 26 = .ok (.lload_n 1, 1) := by decide +kernel
theorem dX9_fingerprint_27 : decode cX9_fingerprint 27 = .ok (.lmul, 1) := by decide +kernel
theorem dX9_fingerprint_28 : decode cX9_fingerprint 28 = .ok (.aload_n 0, 1) := by decide +kernel
theorem dX9_fingerprint_29 : decode cX9_fingerprint 29 = .ok (.getfield 22, 3) := by decide +kernel
theorem dX9_fingerprint_32 : decode cX9_fingerprint 32 = .ok (.getfield 194, 3) := by decide +kernel
theorem dX9_fingerprint_35 : decode cX9_fingerprint 35 = .ok (.ifCond .eq 7, 3) := by decide +kernel
theorem dX9_fingerprint_38 : decode cX9_fingerprint 38 = .ok (.iconst 1, 1) := by decide +kernel
theorem dX9_fingerprint_39 : decode cX9_fingerprint 39 = .ok (.goto 4, 3) := by decide +kernel
theorem dX9_fingerprint_42 : decode cX9_fingerprint 42 = .ok (.iconst 0, 1) := by decide +kernel
theorem dX9_fingerprint_43 : decode cX9_fingerprint 43 = .ok (.i2l, 1) := by decide +kernel
theorem dX9_fingerprint_44 : decode cX9_fingerprint 44 = .ok (.ladd, 1) := by decide +kernel
theorem dX9_fingerprint_45 : decode cX9_fingerprint 45 = .ok (.lreturn, 1) := by decide +kernel
theorem dX9_takeKey_0 : decode cX9_takeKey 0 = .ok (.iload_n 1, 1) := by decide +kernel
theorem dX9_takeKey_1 : decode cX9_takeKey 1 = .ok (.bipush 6, 2) := by decide +kernel
theorem dX9_takeKey_3 : decode cX9_takeKey 3 = .ok (.if_icmp .le 7, 3) := by decide +kernel
theorem dX9_takeKey_6 : decode cX9_takeKey 6 = .ok (.iconst 1, 1) := by decide +kernel
theorem dX9_takeKey_7 : decode cX9_takeKey 7 = .ok (.goto 4, 3) := by decide +kernel
theorem dX9_takeKey_10 : decode cX9_takeKey 10 = .ok (.iconst 0, 1) := by decide +kernel
theorem dX9_takeKey_11 : decode cX9_takeKey 11 = .ok (.istore_n 2, 1) := by decide +kernel
theorem dX9_takeKey_12 : decode cX9_takeKey 12 = .ok (.iload_n 2, 1) := by decide +kernel
theorem dX9_takeKey_13 : decode cX9_takeKey 13 = .ok (.ifCond .eq 10, 3) := by decide +kernel
theorem dX9_takeKey_16 : decode cX9_takeKey 16 = .ok (.iload_n 1, 1) := by decide +kernel
theorem dX9_takeKey_17 : decode cX9_takeKey 17 = .ok (.bipush 100, 2) := by decide +kernel
theorem dX9_takeKey_19 : decode cX9_takeKey 19 = .ok (.isub, 1) := by decide +kernel
theorem dX9_takeKey_20 : decode cX9_takeKey 20 = .ok (.goto 4, 3) := by decide +kernel
theorem dX9_takeKey_23 : decode cX9_takeKey 23 = .ok (.iload_n 1, 1) := by decide +kernel
theorem dX9_takeKey_24 : decode cX9_takeKey 24 = .ok (.istore_n 3, 1) := by decide +kernel
theorem dX9_takeKey_25 : decode cX9_takeKey 25 = .ok (.aload_n 0, 1) := by decide +kernel
theorem dX9_takeKey_26 : decode cX9_takeKey 26 = .ok (.getfield 22, 3) := by decide +kernel
theorem dX9_takeKey_29 : decode cX9_takeKey 29 = .ok (.iload_n 3, 1) := by decide +kernel
theorem dX9_takeKey_30 : decode cX9_takeKey 30 = .ok (.iload_n 2, 1) := by decide +kernel
theorem dX9_takeKey_31 : decode cX9_takeKey 31 = .ok (.invokestatic 209, 3) := by decide +kernel
theorem dX9_takeKey_34 : decode cX9_takeKey 34 = .ok (.putfield 191, 3) := by decide +kernel
theorem dX9_takeKey_37 : decode cX9_takeKey 37 = .ok (.aload_n 0, 1) := by decide +kernel
theorem dX9_takeKey_38 : decode cX9_takeKey 38 = .ok (.getfield 22, 3) := by decide +kernel
theorem dX9_takeKey_41 : decode cX9_takeKey 41 = .ok (.iload_n 2, 1) := by decide +kernel
theorem dX9_takeKey_42 : decode cX9_takeKey 42 = .ok (.putfield 194, 3) := by decide +kernel
theorem dX9_takeKey_45 : decode cX9_takeKey 45 = .ok (.return_, 1) := by decide +kernel
theorem dX9_requireLine_0 : decode cX9_requireLine 0 = .ok (.aload_n 0, 1) := by decide +kernel
theorem dX9_requireLine_1 : decode cX9_requireLine 1 = .ok (.getfield 22, 3) := by decide +kernel
theorem dX9_requireLine_4 : decode cX9_requireLine 4 = .ok (.iload_n 1, 1) := by decide +kernel
theorem dX9_requireLine_5 : decode cX9_requireLine 5 = .ok (.invokevirtual 268, 3) := by decide +kernel
theorem dX9_requireLine_8 : decode cX9_requireLine 8 = .ok (.ifCond .ne 14, 3) := by decide +kernel
theorem dX9_requireLine_11 : decode cX9_requireLine 11 = .ok (.new 122, 3) := by decide +kernel
theorem dX9_requireLine_14 : decode cX9_requireLine 14 = .ok (.dup, 1) := by decide +kernel
theorem dX9_requireLine_15 : decode cX9_requireLine 15 = .ok (.ldc_w 272, 3) := by decide +kernel
theorem dX9_requireLine_18 : decode cX9_requireLine 18 = .ok (.invokespecial 126, 3) := by decide +kernel
theorem dX9_requireLine_21 : decode cX9_requireLine 21 = .ok (.athrow, 1) := by decide +kernel
theorem dX9_requireLine_22 : decode cX9_requireLine 22 = .ok (.return_, 1) := by decide +kernel
theorem dX9_requireChordColumn_0 : decode cX9_requireChordColumn 0 = .ok (.iload_n 2, 1) := by decide +kernel
theorem dX9_requireChordColumn_1 : decode cX9_requireChordColumn 1 = .ok (.ifCond .lt 15, 3) := by decide +kernel
theorem dX9_requireChordColumn_4 : decode cX9_requireChordColumn 4 = .ok (.iload_n 2, 1) := by decide +kernel
theorem dX9_requireChordColumn_5 : decode cX9_requireChordColumn 5 = .ok (.aload_n 0, 1) := by decide +kernel
theorem dX9_requireChordColumn_6 : decode cX9_requireChordColumn 6 = .ok (.getfield 22, 3) := by decide +kernel
theorem dX9_requireChordColumn_9 : decode cX9_requireChordColumn 9 = .ok (.iload_n 1, 1) := by decide +kernel
theorem dX9_requireChordColumn_10 : decode cX9_requireChordColumn 10 = .ok (.invokevirtual 118, 3) := by decide +kernel
theorem dX9_requireChordColumn_13 : decode cX9_requireChordColumn 13 = .ok (.if_icmp .le 13, 3) := by decide +kernel
theorem dX9_requireChordColumn_16 : decode cX9_requireChordColumn 16 = .ok (.new 122, 3) := by decide +kernel
theorem dX9_requireChordColumn_19 : decode cX9_requireChordColumn 19 = .ok (.dup, 1) := by decide +kernel
theorem dX9_requireChordColumn_20 : decode cX9_requireChordColumn 20 = .ok (.ldc 124, 2) := by decide +kernel
theorem dX9_requireChordColumn_22 : decode cX9_requireChordColumn 22 = .ok (.invokespecial 126, 3) := by decide +kernel
theorem dX9_requireChordColumn_25 : decode cX9_requireChordColumn 25 = .ok (.athrow, 1) := by decide +kernel
theorem dX9_requireChordColumn_26 : decode cX9_requireChordColumn 26 = .ok (.return_, 1) := by decide +kernel
theorem dX9_requireChord_0 : decode cX9_requireChord 0 = .ok (.iload_n 1, 1) := by decide +kernel
theorem dX9_requireChord_1 : decode cX9_requireChord 1 = .ok (.ifCond .lt 14, 3) := by decide +kernel
theorem dX9_requireChord_4 : decode cX9_requireChord 4 = .ok (.iload_n 1, 1) := by decide +kernel
theorem dX9_requireChord_5 : decode cX9_requireChord 5 = .ok (.aload_n 0, 1) := by decide +kernel
theorem dX9_requireChord_6 : decode cX9_requireChord 6 = .ok (.getfield 22, 3) := by decide +kernel
theorem dX9_requireChord_9 : decode cX9_requireChord 9 = .ok (.invokevirtual 107, 3) := by decide +kernel
theorem dX9_requireChord_12 : decode cX9_requireChord 12 = .ok (.if_icmp .lt 14, 3) := by decide +kernel
theorem dX9_requireChord_15 : decode cX9_requireChord 15 = .ok (.new 122, 3) := by decide +kernel
theorem dX9_requireChord_18 : decode cX9_requireChord 18 = .ok (.dup, 1) := by decide +kernel
theorem dX9_requireChord_19 : decode cX9_requireChord 19 = .ok (.ldc_w 274, 3) := by decide +kernel
theorem dX9_requireChord_22 : decode cX9_requireChord 22 = .ok (.invokespecial 126, 3) := by decide +kernel
theorem dX9_requireChord_25 : decode cX9_requireChord 25 = .ok (.athrow, 1) := by decide +kernel
theorem dX9_requireChord_26 : decode cX9_requireChord 26 = .ok (.return_, 1) := by decide +kernel
theorem dX9_requireIndex_0 : decode cX9_requireIndex 0 = .ok (.iload_n 1, 1) := by decide +kernel
theorem dX9_requireIndex_1 : decode cX9_requireIndex 1 = .ok (.ifCond .ge 14, 3) := by decide +kernel
theorem dX9_requireIndex_4 : decode cX9_requireIndex 4 = .ok (.new 122, 3) := by decide +kernel
theorem dX9_requireIndex_7 : decode cX9_requireIndex 7 = .ok (.dup, 1) := by decide +kernel
theorem dX9_requireIndex_8 : decode cX9_requireIndex 8 = .ok (.ldc_w 276, 3) := by decide +kernel
theorem dX9_requireIndex_11 : decode cX9_requireIndex 11 = .ok (.invokespecial 126, 3) := by decide +kernel
theorem dX9_requireIndex_14 : decode cX9_requireIndex 14 = .ok (.athrow, 1) := by decide +kernel
theorem dX9_requireIndex_15 : decode cX9_requireIndex 15 = .ok (.return_, 1) := by decide +kernel
theorem dX9_requireTonic_0 : decode cX9_requireTonic 0 = .ok (.iload_n 2, 1) := by decide +kernel
theorem dX9_requireTonic_1 : decode cX9_requireTonic 1 = .ok (.ifCond .eq 7, 3) := by decide +kernel
theorem dX9_requireTonic_4 : decode cX9_requireTonic 4 = .ok (.iconst 3, 1) := by decide +kernel
theorem dX9_requireTonic_5 : decode cX9_requireTonic 5 = .ok (.goto 4, 3) := by decide +kernel
theorem dX9_requireTonic_8 : decode cX9_requireTonic 8 = .ok (.iconst 0, 1) := by decide +kernel
theorem dX9_requireTonic_9 : decode cX9_requireTonic 9 = .ok (.istore_n 3, 1) := by decide +kernel
theorem dX9_requireTonic_10 : decode cX9_requireTonic 10 = .ok (.iload_n 1, 1) := by decide +kernel
theorem dX9_requireTonic_11 : decode cX9_requireTonic 11 = .ok (.iload_n 3, 1) := by decide +kernel
theorem dX9_requireTonic_12 : decode cX9_requireTonic 12 = .ok (.bipush 6, 2) := by decide +kernel
theorem dX9_requireTonic_14 : decode cX9_requireTonic 14 = .ok (.isub, 1) := by decide +kernel
theorem dX9_requireTonic_15 : decode cX9_requireTonic 15 = .ok (.if_icmp .lt 11, 3) := by decide +kernel
theorem dX9_requireTonic_18 : decode cX9_requireTonic 18 = .ok (.iload_n 1, 1) := by decide +kernel
theorem dX9_requireTonic_19 : decode cX9_requireTonic 19 = .ok (.iload_n 3, 1) := by decide +kernel
theorem dX9_requireTonic_20 : decode cX9_requireTonic 20 = .ok (.bipush 6, 2) := by decide +kernel
theorem dX9_requireTonic_22 : decode cX9_requireTonic 22 = .ok (.iadd, 1) := by decide +kernel
theorem dX9_requireTonic_23 : decode cX9_requireTonic 23 = .ok (.if_icmp .le 14, 3) := by decide +kernel
theorem dX9_requireTonic_26 : decode cX9_requireTonic 26 = .ok (.new 65, 3) := by decide +kernel
theorem dX9_requireTonic_29 : decode cX9_requireTonic 29 = .ok (.dup, 1) := by decide +kernel
theorem dX9_requireTonic_30 : decode cX9_requireTonic 30 = .ok (.ldc_w 278, 3) := by decide +kernel
theorem dX9_requireTonic_33 : decode cX9_requireTonic 33 = .ok (.invokespecial 69, 3) := by decide +kernel
theorem dX9_requireTonic_36 : decode cX9_requireTonic 36 = .ok (.athrow, 1) := by decide +kernel
theorem dX9_requireTonic_37 : decode cX9_requireTonic 37 = .ok (.return_, 1) := by decide +kernel
