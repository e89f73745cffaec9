theorem dL_cell_0 : decode cL_cell 0 = .ok (.iload_n 1, 1) := by decide +kernel
theorem dL_cell_1 : decode cL_cell 1 = .ok (.aload_n 0, 1) := by decide +kernel
theorem dL_cell_2 : decode cL_cell 2 = .ok (.arraylength, 1) := by decide +kernel
theorem dL_cell_3 : decode cL_cell 3 = .ok (.if_icmp .ge 9, 3) := by decide +kernel
theorem dL_cell_6 : decode cL_cell 6 = .ok (.aload_n 0, 1) := by decide +kernel
theorem dL_cell_7 : decode cL_cell 7 = .ok (.iload_n 1, 1) := by decide +kernel
theorem dL_cell_8 : decode cL_cell 8 = .ok (.iaload, 1) := by decide +kernel
theorem dL_cell_9 : decode cL_cell 9 = .ok (.goto 9, 3) := by decide +kernel
theorem dL_cell_12 : decode cL_cell 12 = .ok (.ldc 7, 2) := by decide +kernel
theorem dL_cell_14 : decode cL_cell 14 = .ok (.iload_n 1, 1) := by decide +kernel
theorem dL_cell_15 : decode cL_cell 15 = .ok (.iconst 3, 1) := by decide +kernel
theorem dL_cell_16 : decode cL_cell 16 = .ok (.iadd, 1) := by decide +kernel
theorem dL_cell_17 : decode cL_cell 17 = .ok (.imul, 1) := by decide +kernel
theorem dL_cell_18 : decode cL_cell 18 = .ok (.ireturn, 1) := by decide +kernel
theorem dL_up_0 : decode cL_up 0 = .ok (.iload_n 0, 1) := by decide +kernel
theorem dL_up_1 : decode cL_up 1 = .ok (.ldc 8, 2) := by decide +kernel
theorem dL_up_3 : decode cL_up 3 = .ok (.iand, 1) := by decide +kernel
theorem dL_up_4 : decode cL_up 4 = .ok (.iload_n 1, 1) := by decide +kernel
theorem dL_up_5 : decode cL_up 5 = .ok (.irem, 1) := by decide +kernel
theorem dL_up_6 : decode cL_up 6 = .ok (.ireturn, 1) := by decide +kernel
theorem dL_pitch_0 : decode cL_pitch 0 = .ok (.bipush 7, 2) := by decide +kernel
theorem dL_pitch_2 : decode cL_pitch 2 = .ok (.iload_n 0, 1) := by decide +kernel
theorem dL_pitch_3 : decode cL_pitch 3 = .ok (.imul, 1) := by decide +kernel
theorem dL_pitch_4 : decode cL_pitch 4 = .ok (.bipush 12, 2) := by decide +kernel
theorem dL_pitch_6 : decode cL_pitch 6 = .ok (.irem, 1) := by decide +kernel
theorem dL_pitch_7 : decode cL_pitch 7 = .ok (.bipush 12, 2) := by decide +kernel
theorem dL_pitch_9 : decode cL_pitch 9 = .ok (.iadd, 1) := by decide +kernel
theorem dL_pitch_10 : decode cL_pitch 10 = .ok (.bipush 12, 2) := by decide +kernel
theorem dL_pitch_12 : decode cL_pitch 12 = .ok (.irem, 1) := by decide +kernel
theorem dL_pitch_13 : decode cL_pitch 13 = .ok (.ireturn, 1) := by decide +kernel
theorem dL_letter_0 : decode cL_letter 0 = .ok (.iload_n 0, 1) := by decide +kernel
theorem dL_letter_1 : decode cL_letter 1 = .ok (.iconst (-1), 1) := by decide +kernel
theorem dL_letter_2 : decode cL_letter 2 = .ok (.if_icmp .ne 8, 3) := by decide +kernel
theorem dL_letter_5 : decode cL_letter 5 = .ok (.bipush 70, 2) := by decide +kernel
theorem dL_letter_7 : decode cL_letter 7 = .ok (.goto 54, 3) := by decide +kernel
theorem dL_letter_10 : decode cL_letter 10 = .ok (.iload_n 0, 1) := by decide +kernel
theorem dL_letter_11 : decode cL_letter 11 = .ok (.ifCond .ne 8, 3) := by decide +kernel
theorem dL_letter_14 : decode cL_letter 14 = .ok (.bipush 67, 2) := by decide +kernel
theorem dL_letter_16 : decode cL_letter 16 = .ok (.goto 45, 3) := by decide +kernel
theorem dL_letter_19 : decode cL_letter 19 = .ok (.iload_n 0, 1) := by decide +kernel
theorem dL_letter_20 : decode cL_letter 20 = .ok (.iconst 1, 1) := by decide +kernel
theorem dL_letter_21 : decode cL_letter 21 = .ok (.if_icmp .ne 8, 3) := by decide +kernel
theorem dL_letter_24 : decode cL_letter 24 = .ok (.bipush 71, 2) := by decide +kernel
theorem dL_letter_26 : decode cL_letter 26 = .ok (.goto 35, 3) := by decide +kernel
theorem dL_letter_29 : decode cL_letter 29 = .ok (.iload_n 0, 1) := by decide +kernel
theorem dL_letter_30 : decode cL_letter 30 = .ok (.iconst 2, 1) := by decide +kernel
theorem dL_letter_31 : decode cL_letter 31 = .ok (.if_icmp .ne 8, 3) := by decide +kernel
theorem dL_letter_34 : decode cL_letter 34 = .ok (.bipush 68, 2) := by decide +kernel
theorem dL_letter_36 : decode cL_letter 36 = .ok (.goto 25, 3) := by decide +kernel
theorem dL_letter_39 : decode cL_letter 39 = .ok (.iload_n 0, 1) := by decide +kernel
theorem dL_letter_40 : decode cL_letter 40 = .ok (.iconst 3, 1) := by decide +kernel
theorem dL_letter_41 : decode cL_letter 41 = .ok (.if_icmp .ne 8, 3) := by decide +kernel
theorem dL_letter_44 : decode cL_letter 44 = .ok (.bipush 65, 2) := by decide +kernel
theorem dL_letter_46 : decode cL_letter 46 = .ok (.goto 15, 3) := by decide +kernel
theorem dL_letter_49 : decode cL_letter 49 = .ok (.iload_n 0, 1) := by decide +kernel
theorem dL_letter_50 : decode cL_letter 50 = .ok (.iconst 4, 1) := by decide +kernel
theorem dL_letter_51 : decode cL_letter 51 = .ok (.if_icmp .ne 8, 3) := by decide +kernel
theorem dL_letter_54 : decode cL_letter 54 = .ok (.bipush 69, 2) := by decide +kernel
theorem dL_letter_56 : decode cL_letter 56 = .ok (.goto 5, 3) := by decide +kernel
theorem dL_letter_59 : decode cL_letter 59 = .ok (.bipush 66, 2) := by decide +kernel
theorem dL_letter_61 : decode cL_letter 61 = .ok (.ireturn, 1) := by decide +kernel
theorem dL_note_0 : decode cL_note 0 = .ok (.iload_n 1, 1) := by decide +kernel
theorem dL_note_1 : decode cL_note 1 = .ok (.iconst (-1), 1) := by decide +kernel
theorem dL_note_2 : decode cL_note 2 = .ok (.if_icmp .ge 10, 3) := by decide +kernel
theorem dL_note_5 : decode cL_note 5 = .ok (.iload_n 1, 1) := by decide +kernel
theorem dL_note_6 : decode cL_note 6 = .ok (.bipush 7, 2) := by decide +kernel
theorem dL_note_8 : decode cL_note 8 = .ok (.iadd, 1) := by decide +kernel
theorem dL_note_9 : decode cL_note 9 = .ok (.goto 16, 3) := by decide +kernel
theorem dL_note_12 : decode cL_note 12 = .ok (.iload_n 1, 1) := by decide +kernel
theorem dL_note_13 : decode cL_note 13 = .ok (.iconst 5, 1) := by decide +kernel
theorem dL_note_14 : decode cL_note 14 = .ok (.if_icmp .le 10, 3) := by decide +kernel
theorem dL_note_17 : decode cL_note 17 = .ok (.iload_n 1, 1) := by decide +kernel
theorem dL_note_18 : decode cL_note 18 = .ok (.bipush 7, 2) := by decide +kernel
theorem dL_note_20 : decode cL_note 20 = .ok (.isub, 1) := by decide +kernel
theorem dL_note_21 : decode cL_note 21 = .ok (.goto 4, 3) := by decide +kernel
theorem dL_note_24 : decode cL_note 24 = .ok (.iload_n 1, 1) := by decide +kernel
theorem dL_note_25 : decode cL_note 25 = .ok (.istore_n 2, 1) := by decide +kernel
theorem dL_note_26 : decode cL_note 26 = .ok (.aload_n 0, 1) := by decide +kernel
theorem dL_note_27 : decode cL_note 27 = .ok (.iload_n 2, 1) := by decide +kernel
theorem dL_note_28 : decode cL_note 28 = .ok (.invokestatic 9, 3) := by decide +kernel
theorem dL_note_31 : decode cL_note 31 = .ok (.invokevirtual 15, 3) := by decide +kernel
theorem dL_note_34 : decode cL_note 34 = .ok (.istore_n 3, 1) := by decide +kernel
theorem dL_note_35 : decode cL_note 35 = .ok (.iload_n 1, 1) := by decide +kernel
theorem dL_note_36 : decode cL_note 36 = .ok (.iconst (-1), 1) := by decide +kernel
theorem dL_note_37 : decode cL_note 37 = .ok (.if_icmp .ge 12, 3) := by decide +kernel
theorem dL_note_40 : decode cL_note 40 = .ok (.aload_n 0, 1) := by decide +kernel
theorem dL_note_41 : decode cL_note 41 = .ok (.bipush 98, 2) := by decide +kernel
theorem dL_note_43 : decode cL_note 43 = .ok (.invokevirtual 15, 3) := by decide +kernel
theorem dL_note_46 : decode cL_note 46 = .ok (.goto 18, 3) := by decide +kernel
theorem dL_note_49 : decode cL_note 49 = .ok (.iload_n 1, 1) := by decide +kernel
theorem dL_note_50 : decode cL_note 50 = .ok (.iconst 5, 1) := by decide +kernel
theorem dL_note_51 : decode cL_note 51 = .ok (.if_icmp .le 12, 3) := by decide +kernel
theorem dL_note_54 : decode cL_note 54 = .ok (.aload_n 0, 1) := by decide +kernel
theorem dL_note_55 : decode cL_note 55 = .ok (.bipush 35, 2) := by decide +kernel
theorem dL_note_57 : decode cL_note 57 = .ok (.invokevirtual 15, 3) := by decide +kernel
theorem dL_note_60 : decode cL_note 60 = .ok (.goto 4, 3) := by decide +kernel
theorem dL_note_63 : decode cL_note 63 = .ok (.iload_n 3, 1) := by decide +kernel
theorem dL_note_64 : decode cL_note 64 = .ok (.ireturn, 1) := by decide +kernel
theorem dL_word_0 : decode cL_word 0 = .ok (.iload_n 3, 1) := by decide +kernel
theorem dL_word_1 : decode cL_word 1 = .ok (.istore 4, 2) := by decide +kernel
theorem dL_word_3 : decode cL_word 3 = .ok (.bipush 56, 2) := by decide +kernel
theorem dL_word_5 : decode cL_word 5 = .ok (.istore 5, 2) := by decide +kernel
theorem dL_word_7 : decode cL_word 7 = .ok (.iload 5, 2) := by decide +kernel
theorem dL_word_9 : decode cL_word 9 = .ok (.ifCond .lt 38, 3) := by decide +kernel
theorem dL_word_12 : decode cL_word 12 = .ok (.lload_n 1, 1) := by decide +kernel
theorem dL_word_13 : decode cL_word 13 = .ok (.iload 5, 2) := by decide +kernel
theorem dL_word_15 : decode cL_word 15 = .ok (.lushr, 1) := by decide +kernel
theorem dL_word_16 : decode cL_word 16 = .ok (.l2i, 1) := by decide +kernel
theorem dL_word_17 : decode cL_word 17 = .ok (.sipush 255, 3) := by decide +kernel
theorem dL_word_20 : decode cL_word 20 = .ok (.iand, 1) := by decide +kernel
theorem dL_word_21 : decode cL_word 21 = .ok (.istore 6, 2) := by decide +kernel
theorem dL_word_23 : decode cL_word 23 = .ok (.iload 6, 2) := by decide +kernel
theorem dL_word_25 : decode cL_word 25 = .ok (.ifCond .le 12, 3) := by decide +kernel
theorem dL_word_28 : decode cL_word 28 = .ok (.aload_n 0, 1) := by decide +kernel
theorem dL_word_29 : decode cL_word 29 = .ok (.iload 6, 2) := by decide +kernel
theorem dL_word_31 : decode cL_word 31 = .ok (.invokevirtual 15, 3) := by decide +kernel
theorem dL_word_34 : decode cL_word 34 = .ok (.goto 5, 3) := by decide +kernel
theorem dL_word_37 : decode cL_word 37 = .ok (.iload 4, 2) := by decide +kernel
theorem dL_word_39 : decode cL_word 39 = .ok (.istore 4, 2) := by decide +kernel
theorem dL_word_41 : decode cL_word 41 = .ok (.iinc 5 (-8), 3) := by decide +kernel
theorem dL_word_44 : decode cL_word 44 = .ok (.goto (-37), 3) := by decide +kernel
theorem dL_word_47 : decode cL_word 47 = .ok (.iload 4, 2) := by decide +kernel
theorem dL_word_49 : decode cL_word 49 = .ok (.ireturn, 1) := by decide +kernel
theorem dL_quality_0 : decode cL_quality 0 = .ok (.iload_n 0, 1) := by decide +kernel
theorem dL_quality_1 : decode cL_quality 1 = .ok (.tableswitch 85 0 8 #[51, 53, 57, 61, 65, 69, 73, 77, 81], 51) := by decide +kernel
theorem dL_quality_52 : decode cL_quality 52 = .ok (.lconst 0, 1) := by decide +kernel
theorem dL_quality_53 : decode cL_quality 53 = .ok (.lreturn, 1) := by decide +kernel
theorem dL_quality_54 : decode cL_quality 54 = .ok (.ldc2_w 20, 3) := by decide +kernel
theorem dL_quality_57 : decode cL_quality 57 = .ok (.lreturn, 1) := by decide +kernel
theorem dL_quality_58 : decode cL_quality 58 = .ok (.ldc2_w 22, 3) := by decide +kernel
theorem dL_quality_61 : decode cL_quality 61 = .ok (.lreturn, 1) := by decide +kernel
theorem dL_quality_62 : decode cL_quality 62 = .ok (.ldc2_w 24, 3) := by decide +kernel
theorem dL_quality_65 : decode cL_quality 65 = .ok (.lreturn, 1) := by decide +kernel
theorem dL_quality_66 : decode cL_quality 66 = .ok (.ldc2_w 26, 3) := by decide +kernel
theorem dL_quality_69 : decode cL_quality 69 = .ok (.lreturn, 1) := by decide +kernel
theorem dL_quality_70 : decode cL_quality 70 = .ok (.ldc2_w 28, 3) := by decide +kernel
theorem dL_quality_73 : decode cL_quality 73 = .ok (.lreturn, 1) := by decide +kernel
theorem dL_quality_74 : decode cL_quality 74 = .ok (.ldc2_w 30, 3) := by decide +kernel
theorem dL_quality_77 : decode cL_quality 77 = .ok (.lreturn, 1) := by decide +kernel
theorem dL_quality_78 : decode cL_quality 78 = .ok (.ldc2_w 32, 3) := by decide +kernel
theorem dL_quality_81 : decode cL_quality 81 = .ok (.lreturn, 1) := by decide +kernel
theorem dL_quality_82 : decode cL_quality 82 = .ok (.ldc2_w 34, 3) := by decide +kernel
theorem dL_quality_85 : decode cL_quality 85 = .ok (.lreturn, 1) := by decide +kernel
theorem dL_quality_86 : decode cL_quality 86 = .ok (.ldc2_w 36, 3) := by decide +kernel
theorem dL_quality_89 : decode cL_quality 89 = .ok (.lreturn, 1) := by decide +kernel
theorem dL_rootBy_0 : decode cL_rootBy 0 = .ok (.iload_n 0, 1) := by decide +kernel
theorem dL_rootBy_1 : decode cL_rootBy 1 = .ok (.bipush 21, 2) := by decide +kernel
theorem dL_rootBy_3 : decode cL_rootBy 3 = .ok (.invokestatic 38, 3) := by decide +kernel
theorem dL_rootBy_6 : decode cL_rootBy 6 = .ok (.bipush 8, 2) := by decide +kernel
theorem dL_rootBy_8 : decode cL_rootBy 8 = .ok (.isub, 1) := by decide +kernel
theorem dL_rootBy_9 : decode cL_rootBy 9 = .ok (.ireturn, 1) := by decide +kernel
theorem dL_qualityBy_0 : decode cL_qualityBy 0 = .ok (.iload_n 0, 1) := by decide +kernel
theorem dL_qualityBy_1 : decode cL_qualityBy 1 = .ok (.iconst 5, 1) := by decide +kernel
theorem dL_qualityBy_2 : decode cL_qualityBy 2 = .ok (.ishr, 1) := by decide +kernel
theorem dL_qualityBy_3 : decode cL_qualityBy 3 = .ok (.bipush 10, 2) := by decide +kernel
theorem dL_qualityBy_5 : decode cL_qualityBy 5 = .ok (.invokestatic 38, 3) := by decide +kernel
theorem dL_qualityBy_8 : decode cL_qualityBy 8 = .ok (.ireturn, 1) := by decide +kernel
theorem dL_bassBy_0 : decode cL_bassBy 0 = .ok (.iload_n 0, 1) := by decide +kernel
theorem dL_bassBy_1 : decode cL_bassBy 1 = .ok (.bipush 9, 2) := by decide +kernel
theorem dL_bassBy_3 : decode cL_bassBy 3 = .ok (.ishr, 1) := by decide +kernel
theorem dL_bassBy_4 : decode cL_bassBy 4 = .ok (.iconst 3, 1) := by decide +kernel
theorem dL_bassBy_5 : decode cL_bassBy 5 = .ok (.iand, 1) := by decide +kernel
theorem dL_bassBy_6 : decode cL_bassBy 6 = .ok (.ifCond .ne 18, 3) := by decide +kernel
theorem dL_bassBy_9 : decode cL_bassBy 9 = .ok (.iload_n 0, 1) := by decide +kernel
theorem dL_bassBy_10 : decode cL_bassBy 10 = .ok (.bipush 11, 2) := by decide +kernel
theorem dL_bassBy_12 : decode cL_bassBy 12 = .ok (.ishr, 1) := by decide +kernel
theorem dL_bassBy_13 : decode cL_bassBy 13 = .ok (.bipush 21, 2) := by decide +kernel
theorem dL_bassBy_15 : decode cL_bassBy 15 = .ok (.invokestatic 38, 3) := by decide +kernel
theorem dL_bassBy_18 : decode cL_bassBy 18 = .ok (.bipush 8, 2) := by decide +kernel
theorem dL_bassBy_20 : decode cL_bassBy 20 = .ok (.isub, 1) := by decide +kernel
theorem dL_bassBy_21 : decode cL_bassBy 21 = .ok (.goto 5, 3) := by decide +kernel
theorem dL_bassBy_24 : decode cL_bassBy 24 = .ok (.bipush 100, 2) := by decide +kernel
theorem dL_bassBy_26 : decode cL_bassBy 26 = .ok (.ireturn, 1) := by decide +kernel
theorem dL_chord_0 : decode cL_chord 0 = .ok (.aload_n 0, 1) := by decide +kernel
theorem dL_chord_1 : decode cL_chord 1 = .ok (.iload_n 1, 1) := by decide +kernel
theorem dL_chord_2 : decode cL_chord 2 = .ok (.invokestatic 42, 3) := by decide +kernel
theorem dL_chord_5 : decode cL_chord 5 = .ok (.invokestatic 45, 3) := by decide +kernel
theorem dL_chord_8 : decode cL_chord 8 = .ok (.istore_n 2, 1) := by decide +kernel
theorem dL_chord_9 : decode cL_chord 9 = .ok (.aload_n 0, 1) := by decide +kernel
theorem dL_chord_10 : decode cL_chord 10 = .ok (.iload_n 1, 1) := by decide +kernel
theorem dL_chord_11 : decode cL_chord 11 = .ok (.invokestatic 49, 3) := by decide +kernel
theorem dL_chord_14 : decode cL_chord 14 = .ok (.invokestatic 52, 3) := by decide +kernel
theorem dL_chord_17 : decode cL_chord 17 = .ok (.iload_n 2, 1) := by decide +kernel
theorem dL_chord_18 : decode cL_chord 18 = .ok (.invokestatic 56, 3) := by decide +kernel
theorem dL_chord_21 : decode cL_chord 21 = .ok (.istore_n 2, 1) := by decide +kernel
theorem dL_chord_22 : decode cL_chord 22 = .ok (.iload_n 1, 1) := by decide +kernel
theorem dL_chord_23 : decode cL_chord 23 = .ok (.invokestatic 60, 3) := by decide +kernel
theorem dL_chord_26 : decode cL_chord 26 = .ok (.bipush 100, 2) := by decide +kernel
theorem dL_chord_28 : decode cL_chord 28 = .ok (.if_icmp .ge 19, 3) := by decide +kernel
theorem dL_chord_31 : decode cL_chord 31 = .ok (.aload_n 0, 1) := by decide +kernel
theorem dL_chord_32 : decode cL_chord 32 = .ok (.bipush 47, 2) := by decide +kernel
theorem dL_chord_34 : decode cL_chord 34 = .ok (.invokevirtual 15, 3) := by decide +kernel
theorem dL_chord_37 : decode cL_chord 37 = .ok (.istore_n 2, 1) := by decide +kernel
theorem dL_chord_38 : decode cL_chord 38 = .ok (.aload_n 0, 1) := by decide +kernel
theorem dL_chord_39 : decode cL_chord 39 = .ok (.iload_n 1, 1) := by decide +kernel
theorem dL_chord_40 : decode cL_chord 40 = .ok (.invokestatic 60, 3) := by decide +kernel
theorem dL_chord_43 : decode cL_chord 43 = .ok (.invokestatic 45, 3) := by decide +kernel
theorem dL_chord_46 : decode cL_chord 46 = .ok (.istore_n 2, 1) := by decide +kernel
theorem dL_chord_47 : decode cL_chord 47 = .ok (.iload_n 2, 1) := by decide +kernel
theorem dL_chord_48 : decode cL_chord 48 = .ok (.ireturn, 1) := by decide +kernel
theorem dL_told_0 : decode cL_told 0 = .ok (.aload_n 0, 1) := by decide +kernel
theorem dL_told_1 : decode cL_told 1 = .ok (.iload_n 1, 1) := by decide +kernel
theorem dL_told_2 : decode cL_told 2 = .ok (.invokevirtual 63, 3) := by decide +kernel
theorem dL_told_5 : decode cL_told 5 = .ok (.ireturn, 1) := by decide +kernel
theorem dL_told_6 : decode cL_told 6 = .ok (.astore_n 2, 1) := by decide +kernel
theorem dL_told_7 : decode cL_told 7 = .ok (.bipush (-99), 2) := by decide +kernel
theorem dL_told_9 : decode cL_told 9 = .ok (.ireturn, 1) := by decide +kernel
theorem dL_added_0 : decode cL_added 0 = .ok (.aload_n 0, 1) := by decide +kernel
theorem dL_added_1 : decode cL_added 1 = .ok (.iload_n 1, 1) := by decide +kernel
theorem dL_added_2 : decode cL_added 2 = .ok (.iload_n 2, 1) := by decide +kernel
theorem dL_added_3 : decode cL_added 3 = .ok (.invokevirtual 68, 3) := by decide +kernel
theorem dL_added_6 : decode cL_added 6 = .ok (.ireturn, 1) := by decide +kernel
theorem dL_added_7 : decode cL_added 7 = .ok (.astore_n 3, 1) := by decide +kernel
theorem dL_added_8 : decode cL_added 8 = .ok (.sipush (-999), 3) := by decide +kernel
theorem dL_added_11 : decode cL_added 11 = .ok (.ireturn, 1) := by decide +kernel
theorem dL_added_12 : decode cL_added 12 = .ok (.astore_n 3, 1) := by decide +kernel
theorem dL_added_13 : decode cL_added 13 = .ok (.sipush (-998), 3) := by decide +kernel
theorem dL_added_16 : decode cL_added 16 = .ok (.ireturn, 1) := by decide +kernel
theorem dL_transposed_0 : decode cL_transposed 0 = .ok (.aload_n 0, 1) := by decide +kernel
theorem dL_transposed_1 : decode cL_transposed 1 = .ok (.iload_n 1, 1) := by decide +kernel
theorem dL_transposed_2 : decode cL_transposed 2 = .ok (.invokevirtual 73, 3) := by decide +kernel
theorem dL_transposed_5 : decode cL_transposed 5 = .ok (.ireturn, 1) := by decide +kernel
theorem dL_transposed_6 : decode cL_transposed 6 = .ok (.astore_n 2, 1) := by decide +kernel
theorem dL_transposed_7 : decode cL_transposed 7 = .ok (.bipush (-99), 2) := by decide +kernel
theorem dL_transposed_9 : decode cL_transposed 9 = .ok (.ireturn, 1) := by decide +kernel
theorem dL_undone_0 : decode cL_undone 0 = .ok (.aload_n 0, 1) := by decide +kernel
theorem dL_undone_1 : decode cL_undone 1 = .ok (.invokevirtual 78, 3) := by decide +kernel
theorem dL_undone_4 : decode cL_undone 4 = .ok (.ireturn, 1) := by decide +kernel
theorem dL_undone_5 : decode cL_undone 5 = .ok (.astore_n 1, 1) := by decide +kernel
theorem dL_undone_6 : decode cL_undone 6 = .ok (.iconst (-1), 1) := by decide +kernel
theorem dL_undone_7 : decode cL_undone 7 = .ok (.ireturn, 1) := by decide +kernel
theorem dL_key_0 : decode cL_key 0 = .ok (.aload_n 0, 1) := by decide +kernel
theorem dL_key_1 : decode cL_key 1 = .ok (.iload_n 1, 1) := by decide +kernel
theorem dL_key_2 : decode cL_key 2 = .ok (.iload_n 2, 1) := by decide +kernel
theorem dL_key_3 : decode cL_key 3 = .ok (.invokevirtual 82, 3) := by decide +kernel
theorem dL_key_6 : decode cL_key 6 = .ok (.ireturn, 1) := by decide +kernel
theorem dL_key_7 : decode cL_key 7 = .ok (.astore_n 3, 1) := by decide +kernel
theorem dL_key_8 : decode cL_key 8 = .ok (.bipush (-99), 2) := by decide +kernel
theorem dL_key_10 : decode cL_key 10 = .ok (.ireturn, 1) := by decide +kernel
theorem dL_fails_0 : decode cL_fails 0 = .ok (.aload_n 0, 1) := by decide +kernel
theorem dL_fails_1 : decode cL_fails 1 = .ok (.invokevirtual 86, 3) := by decide +kernel
theorem dL_fails_4 : decode cL_fails 4 = .ok (.lstore_n 1, 1) := by decide +kernel
theorem dL_fails_5 : decode cL_fails 5 = .ok (.aload_n 0, 1) := by decide +kernel
theorem dL_fails_6 : decode cL_fails 6 = .ok (.invokevirtual 90, 3) := by decide +kernel
theorem dL_fails_9 : decode cL_fails 9 = .ok (.istore_n 3, 1) := by decide +kernel
theorem dL_fails_10 : decode cL_fails 10 = .ok (.aload_n 0, 1) := by decide +kernel
theorem dL_fails_11 : decode cL_fails 11 = .ok (.iload_n 3, 1) := by decide +kernel
theorem dL_fails_12 : decode cL_fails 12 = .ok (.invokestatic 93, 3) := by decide +kernel
theorem dL_fails_15 : decode cL_fails 15 = .ok (.bipush (-99), 2) := by decide +kernel
theorem dL_fails_17 : decode cL_fails 17 = .ok (.if_icmp .ne 72, 3) := by decide +kernel
theorem dL_fails_20 : decode cL_fails 20 = .ok (.aload_n 0, 1) := by decide +kernel
theorem dL_fails_21 : decode cL_fails 21 = .ok (.iconst (-1), 1) := by decide +kernel
theorem dL_fails_22 : decode cL_fails 22 = .ok (.invokestatic 93, 3) := by decide +kernel
theorem dL_fails_25 : decode cL_fails 25 = .ok (.bipush (-99), 2) := by decide +kernel
theorem dL_fails_27 : decode cL_fails 27 = .ok (.if_icmp .ne 62, 3) := by decide +kernel
theorem dL_fails_30 : decode cL_fails 30 = .ok (.aload_n 0, 1) := by decide +kernel
theorem dL_fails_31 : decode cL_fails 31 = .ok (.aload_n 0, 1) := by decide +kernel
theorem dL_fails_32 : decode cL_fails 32 = .ok (.invokevirtual 96, 3) := by decide +kernel
theorem dL_fails_35 : decode cL_fails 35 = .ok (.iconst 0, 1) := by decide +kernel
theorem dL_fails_36 : decode cL_fails 36 = .ok (.invokestatic 99, 3) := by decide +kernel
theorem dL_fails_39 : decode cL_fails 39 = .ok (.sipush (-999), 3) := by decide +kernel
theorem dL_fails_42 : decode cL_fails 42 = .ok (.if_icmp .ne 47, 3) := by decide +kernel
theorem dL_fails_45 : decode cL_fails 45 = .ok (.aload_n 0, 1) := by decide +kernel
theorem dL_fails_46 : decode cL_fails 46 = .ok (.iconst 0, 1) := by decide +kernel
theorem dL_fails_47 : decode cL_fails 47 = .ok (.aload_n 0, 1) := by decide +kernel
theorem dL_fails_48 : decode cL_fails 48 = .ok (.iconst 0, 1) := by decide +kernel
theorem dL_fails_49 : decode cL_fails 49 = .ok (.invokevirtual 103, 3) := by decide +kernel
theorem dL_fails_52 : decode cL_fails 52 = .ok (.iconst 1, 1) := by decide +kernel
theorem dL_fails_53 : decode cL_fails 53 = .ok (.iadd, 1) := by decide +kernel
theorem dL_fails_54 : decode cL_fails 54 = .ok (.invokestatic 99, 3) := by decide +kernel
theorem dL_fails_57 : decode cL_fails 57 = .ok (.sipush (-999), 3) := by decide +kernel
theorem dL_fails_60 : decode cL_fails 60 = .ok (.if_icmp .ne 29, 3) := by decide +kernel
theorem dL_fails_63 : decode cL_fails 63 = .ok (.aload_n 0, 1) := by decide +kernel
theorem dL_fails_64 : decode cL_fails 64 = .ok (.bipush 12, 2) := by decide +kernel
theorem dL_fails_66 : decode cL_fails 66 = .ok (.invokestatic 106, 3) := by decide +kernel
theorem dL_fails_69 : decode cL_fails 69 = .ok (.bipush (-99), 2) := by decide +kernel
theorem dL_fails_71 : decode cL_fails 71 = .ok (.if_icmp .ne 18, 3) := by decide +kernel
theorem dL_fails_74 : decode cL_fails 74 = .ok (.aload_n 0, 1) := by decide +kernel
theorem dL_fails_75 : decode cL_fails 75 = .ok (.bipush (-12), 2) := by decide +kernel
theorem dL_fails_77 : decode cL_fails 77 = .ok (.invokestatic 106, 3) := by decide +kernel
theorem dL_fails_80 : decode cL_fails 80 = .ok (.bipush (-99), 2) := by decide +kernel
theorem dL_fails_82 : decode cL_fails 82 = .ok (.if_icmp .ne 7, 3) := by decide +kernel
theorem dL_fails_85 : decode cL_fails 85 = .ok (.iconst 1, 1) := by decide +kernel
theorem dL_fails_86 : decode cL_fails 86 = .ok (.goto 4, 3) := by decide +kernel
theorem dL_fails_89 : decode cL_fails 89 = .ok (.iconst 0, 1) := by decide +kernel
theorem dL_fails_90 : decode cL_fails 90 = .ok (.istore 4, 2) := by decide +kernel
theorem dL_fails_92 : decode cL_fails 92 = .ok (.iload 4, 2) := by decide +kernel
theorem dL_fails_94 : decode cL_fails 94 = .ok (.ifCond .eq 55, 3) := by decide +kernel
theorem dL_fails_97 : decode cL_fails 97 = .ok (.aload_n 0, 1) := by decide +kernel
theorem dL_fails_98 : decode cL_fails 98 = .ok (.bipush 7, 2) := by decide +kernel
theorem dL_fails_100 : decode cL_fails 100 = .ok (.iconst 0, 1) := by decide +kernel
theorem dL_fails_101 : decode cL_fails 101 = .ok (.invokestatic 109, 3) := by decide +kernel
theorem dL_fails_104 : decode cL_fails 104 = .ok (.bipush (-99), 2) := by decide +kernel
theorem dL_fails_106 : decode cL_fails 106 = .ok (.if_icmp .ne 43, 3) := by decide +kernel
theorem dL_fails_109 : decode cL_fails 109 = .ok (.aload_n 0, 1) := by decide +kernel
theorem dL_fails_110 : decode cL_fails 110 = .ok (.bipush (-7), 2) := by decide +kernel
theorem dL_fails_112 : decode cL_fails 112 = .ok (.iconst 0, 1) := by decide +kernel
theorem dL_fails_113 : decode cL_fails 113 = .ok (.invokestatic 109, 3) := by decide +kernel
theorem dL_fails_116 : decode cL_fails 116 = .ok (.bipush (-99), 2) := by decide +kernel
theorem dL_fails_118 : decode cL_fails 118 = .ok (.if_icmp .ne 31, 3) := by decide +kernel
theorem dL_fails_121 : decode cL_fails 121 = .ok (.aload_n 0, 1) := by decide +kernel
theorem dL_fails_122 : decode cL_fails 122 = .ok (.bipush (-4), 2) := by decide +kernel
theorem dL_fails_124 : decode cL_fails 124 = .ok (.iconst 1, 1) := by decide +kernel
theorem dL_fails_125 : decode cL_fails 125 = .ok (.invokestatic 109, 3) := by decide +kernel
theorem dL_fails_128 : decode cL_fails 128 = .ok (.bipush (-99), 2) := by decide +kernel
theorem dL_fails_130 : decode cL_fails 130 = .ok (.if_icmp .ne 19, 3) := by decide +kernel
theorem dL_fails_133 : decode cL_fails 133 = .ok (.aload_n 0, 1) := by decide +kernel
theorem dL_fails_134 : decode cL_fails 134 = .ok (.bipush 10, 2) := by decide +kernel
theorem dL_fails_136 : decode cL_fails 136 = .ok (.iconst 1, 1) := by decide +kernel
theorem dL_fails_137 : decode cL_fails 137 = .ok (.invokestatic 109, 3) := by decide +kernel
theorem dL_fails_140 : decode cL_fails 140 = .ok (.bipush (-99), 2) := by decide +kernel
theorem dL_fails_142 : decode cL_fails 142 = .ok (.if_icmp .ne 7, 3) := by decide +kernel
theorem dL_fails_145 : decode cL_fails 145 = .ok (.iconst 1, 1) := by decide +kernel
theorem dL_fails_146 : decode cL_fails 146 = .ok (.goto 4, 3) := by decide +kernel
theorem dL_fails_149 : decode cL_fails 149 = .ok (.iconst 0, 1) := by decide +kernel
theorem dL_fails_150 : decode cL_fails 150 = .ok (.istore 4, 2) := by decide +kernel
theorem dL_fails_152 : decode cL_fails 152 = .ok (.iload 4, 2) := by decide +kernel
theorem dL_fails_154 : decode cL_fails 154 = .ok (.ifCond .eq 16, 3) := by decide +kernel
theorem dL_fails_157 : decode cL_fails 157 = .ok (.aload_n 0, 1) := by decide +kernel
theorem dL_fails_158 : decode cL_fails 158 = .ok (.invokevirtual 86, 3) := by decide +kernel
theorem dL_fails_161 : decode cL_fails 161 = .ok (.lload_n 1, 1) := by decide +kernel
theorem dL_fails_162 : decode cL_fails 162 = .ok (.lcmp, 1) := by decide +kernel
theorem dL_fails_163 : decode cL_fails 163 = .ok (.ifCond .ne 7, 3) := by decide +kernel
theorem dL_fails_166 : decode cL_fails 166 = .ok (.iconst 1, 1) := by decide +kernel
theorem dL_fails_167 : decode cL_fails 167 = .ok (.goto 4, 3) := by decide +kernel
theorem dL_fails_170 : decode cL_fails 170 = .ok (.iconst 0, 1) := by decide +kernel
theorem dL_fails_171 : decode cL_fails 171 = .ok (.ireturn, 1) := by decide +kernel
theorem dL_sheet_0 : decode cL_sheet 0 = .ok (.iconst 0, 1) := by decide +kernel
theorem dL_sheet_1 : decode cL_sheet 1 = .ok (.istore_n 3, 1) := by decide +kernel
theorem dL_sheet_2 : decode cL_sheet 2 = .ok (.iconst 0, 1) := by decide +kernel
theorem dL_sheet_3 : decode cL_sheet 3 = .ok (.istore 4, 2) := by decide +kernel
theorem dL_sheet_5 : decode cL_sheet 5 = .ok (.iconst 0, 1) := by decide +kernel
theorem dL_sheet_6 : decode cL_sheet 6 = .ok (.istore 5, 2) := by decide +kernel
theorem dL_sheet_8 : decode cL_sheet 8 = .ok (.iload 5, 2) := by decide +kernel
theorem dL_sheet_10 : decode cL_sheet 10 = .ok (.bipush 12, 2) := by decide +kernel
theorem dL_sheet_12 : decode cL_sheet 12 = .ok (.if_icmp .ge 133, 3) := by decide +kernel
theorem dL_sheet_15 : decode cL_sheet 15 = .ok (.aload_n 1, 1) := by decide +kernel
theorem dL_sheet_16 : decode cL_sheet 16 = .ok (.iload_n 2, 1) := by decide +kernel
theorem dL_sheet_17 : decode cL_sheet 17 = .ok (.iload 5, 2) := by decide +kernel
theorem dL_sheet_19 : decode cL_sheet 19 = .ok (.iadd, 1) := by decide +kernel
theorem dL_sheet_20 : decode cL_sheet 20 = .ok (.invokestatic 113, 3) := by decide +kernel
theorem dL_sheet_23 : decode cL_sheet 23 = .ok (.istore 6, 2) := by decide +kernel
theorem dL_sheet_25 : decode cL_sheet 25 = .ok (.iload 6, 2) := by decide +kernel
theorem dL_sheet_27 : decode cL_sheet 27 = .ok (.bipush 13, 2) := by decide +kernel
theorem dL_sheet_29 : decode cL_sheet 29 = .ok (.ishr, 1) := by decide +kernel
theorem dL_sheet_30 : decode cL_sheet 30 = .ok (.iconst 3, 1) := by decide +kernel
theorem dL_sheet_31 : decode cL_sheet 31 = .ok (.iand, 1) := by decide +kernel
theorem dL_sheet_32 : decode cL_sheet 32 = .ok (.ifCond .ne 13, 3) := by decide +kernel
theorem dL_sheet_35 : decode cL_sheet 35 = .ok (.aload_n 0, 1) := by decide +kernel
theorem dL_sheet_36 : decode cL_sheet 36 = .ok (.bipush 47, 2) := by decide +kernel
theorem dL_sheet_38 : decode cL_sheet 38 = .ok (.invokevirtual 15, 3) := by decide +kernel
theorem dL_sheet_41 : decode cL_sheet 41 = .ok (.istore_n 3, 1) := by decide +kernel
theorem dL_sheet_42 : decode cL_sheet 42 = .ok (.goto 21, 3) := by decide +kernel
theorem dL_sheet_45 : decode cL_sheet 45 = .ok (.iload 6, 2) := by decide +kernel
theorem dL_sheet_47 : decode cL_sheet 47 = .ok (.bipush 13, 2) := by decide +kernel
theorem dL_sheet_49 : decode cL_sheet 49 = .ok (.ishr, 1) := by decide +kernel
theorem dL_sheet_50 : decode cL_sheet 50 = .ok (.iconst 3, 1) := by decide +kernel
theorem dL_sheet_51 : decode cL_sheet 51 = .ok (.iand, 1) := by decide +kernel
theorem dL_sheet_52 : decode cL_sheet 52 = .ok (.iconst 1, 1) := by decide +kernel
theorem dL_sheet_53 : decode cL_sheet 53 = .ok (.if_icmp .ne 10, 3) := by decide +kernel
theorem dL_sheet_56 : decode cL_sheet 56 = .ok (.aload_n 0, 1) := by decide +kernel
theorem dL_sheet_57 : decode cL_sheet 57 = .ok (.bipush 32, 2) := by decide +kernel
theorem dL_sheet_59 : decode cL_sheet 59 = .ok (.invokevirtual 15, 3) := by decide +kernel
theorem dL_sheet_62 : decode cL_sheet 62 = .ok (.istore_n 3, 1) := by decide +kernel
theorem dL_sheet_63 : decode cL_sheet 63 = .ok (.iload 6, 2) := by decide +kernel
theorem dL_sheet_65 : decode cL_sheet 65 = .ok (.bipush 15, 2) := by decide +kernel
theorem dL_sheet_67 : decode cL_sheet 67 = .ok (.ishr, 1) := by decide +kernel
theorem dL_sheet_68 : decode cL_sheet 68 = .ok (.iconst 1, 1) := by decide +kernel
theorem dL_sheet_69 : decode cL_sheet 69 = .ok (.iand, 1) := by decide +kernel
theorem dL_sheet_70 : decode cL_sheet 70 = .ok (.iconst 1, 1) := by decide +kernel
theorem dL_sheet_71 : decode cL_sheet 71 = .ok (.if_icmp .ne 27, 3) := by decide +kernel
theorem dL_sheet_74 : decode cL_sheet 74 = .ok (.aload_n 0, 1) := by decide +kernel
theorem dL_sheet_75 : decode cL_sheet 75 = .ok (.bipush 91, 2) := by decide +kernel
theorem dL_sheet_77 : decode cL_sheet 77 = .ok (.invokevirtual 15, 3) := by decide +kernel
theorem dL_sheet_80 : decode cL_sheet 80 = .ok (.istore_n 3, 1) := by decide +kernel
theorem dL_sheet_81 : decode cL_sheet 81 = .ok (.aload_n 0, 1) := by decide +kernel
theorem dL_sheet_82 : decode cL_sheet 82 = .ok (.iload 6, 2) := by decide +kernel
theorem dL_sheet_84 : decode cL_sheet 84 = .ok (.invokestatic 117, 3) := by decide +kernel
theorem dL_sheet_87 : decode cL_sheet 87 = .ok (.istore_n 3, 1) := by decide +kernel
theorem dL_sheet_88 : decode cL_sheet 88 = .ok (.aload_n 0, 1) := by decide +kernel
theorem dL_sheet_89 : decode cL_sheet 89 = .ok (.bipush 93, 2) := by decide +kernel
theorem dL_sheet_91 : decode cL_sheet 91 = .ok (.invokevirtual 15, 3) := by decide +kernel
theorem dL_sheet_94 : decode cL_sheet 94 = .ok (.istore_n 3, 1) := by decide +kernel
theorem dL_sheet_95 : decode cL_sheet 95 = .ok (.iinc 4 1, 3) := by decide +kernel
theorem dL_sheet_98 : decode cL_sheet 98 = .ok (.iconst 0, 1) := by decide +kernel
theorem dL_sheet_99 : decode cL_sheet 99 = .ok (.istore 7, 2) := by decide +kernel
theorem dL_sheet_101 : decode cL_sheet 101 = .ok (.iload 7, 2) := by decide +kernel
theorem dL_sheet_103 : decode cL_sheet 103 = .ok (.iload 6, 2) := by decide +kernel
theorem dL_sheet_105 : decode cL_sheet 105 = .ok (.bipush 17, 2) := by decide +kernel
theorem dL_sheet_107 : decode cL_sheet 107 = .ok (.ishr, 1) := by decide +kernel
theorem dL_sheet_108 : decode cL_sheet 108 = .ok (.iconst 5, 1) := by decide +kernel
theorem dL_sheet_109 : decode cL_sheet 109 = .ok (.invokestatic 38, 3) := by decide +kernel
theorem dL_sheet_112 : decode cL_sheet 112 = .ok (.if_icmp .ge 27, 3) := by decide +kernel
theorem dL_sheet_115 : decode cL_sheet 115 = .ok (.aload_n 0, 1) := by decide +kernel
theorem dL_sheet_116 : decode cL_sheet 116 = .ok (.bipush 97, 2) := by decide +kernel
theorem dL_sheet_118 : decode cL_sheet 118 = .ok (.iload 6, 2) := by decide +kernel
theorem dL_sheet_120 : decode cL_sheet 120 = .ok (.bipush 20, 2) := by decide +kernel
theorem dL_sheet_122 : decode cL_sheet 122 = .ok (.ishr, 1) := by decide +kernel
theorem dL_sheet_123 : decode cL_sheet 123 = .ok (.bipush 26, 2) := by decide +kernel
theorem dL_sheet_125 : decode cL_sheet 125 = .ok (.invokestatic 38, 3) := by decide +kernel
theorem dL_sheet_128 : decode cL_sheet 128 = .ok (.iadd, 1) := by decide +kernel
theorem dL_sheet_129 : decode cL_sheet 129 = .ok (.invokevirtual 15, 3) := by decide +kernel
theorem dL_sheet_132 : decode cL_sheet 132 = .ok (.istore_n 3, 1) := by decide +kernel
theorem dL_sheet_133 : decode cL_sheet 133 = .ok (.iinc 7 1, 3) := by decide +kernel
theorem dL_sheet_136 : decode cL_sheet 136 = .ok (.goto (-35), 3) := by decide +kernel
theorem dL_sheet_139 : decode cL_sheet 139 = .ok (.iinc 5 1, 3) := by decide +kernel
theorem dL_sheet_142 : decode cL_sheet 142 = .ok (.goto (-134), 3) := by decide +kernel
theorem dL_sheet_145 : decode cL_sheet 145 = .ok (.iload_n 3, 1) := by decide +kernel
theorem dL_sheet_146 : decode cL_sheet 146 = .ok (.ifCond .ge 7, 3) := by decide +kernel
theorem dL_sheet_149 : decode cL_sheet 149 = .ok (.iconst (-1), 1) := by decide +kernel
theorem dL_sheet_150 : decode cL_sheet 150 = .ok (.goto 5, 3) := by decide +kernel
theorem dL_sheet_153 : decode cL_sheet 153 = .ok (.iload 4, 2) := by decide +kernel
theorem dL_sheet_155 : decode cL_sheet 155 = .ok (.ireturn, 1) := by decide +kernel
theorem dL_chords_0 : decode cL_chords 0 = .ok (.aload_n 0, 1) := by decide +kernel
theorem dL_chords_1 : decode cL_chords 1 = .ok (.invokevirtual 90, 3) := by decide +kernel
theorem dL_chords_4 : decode cL_chords 4 = .ok (.istore_n 1, 1) := by decide +kernel
theorem dL_chords_5 : decode cL_chords 5 = .ok (.iconst 0, 1) := by decide +kernel
theorem dL_chords_6 : decode cL_chords 6 = .ok (.istore_n 2, 1) := by decide +kernel
theorem dL_chords_7 : decode cL_chords 7 = .ok (.iload_n 2, 1) := by decide +kernel
theorem dL_chords_8 : decode cL_chords 8 = .ok (.iload_n 1, 1) := by decide +kernel
theorem dL_chords_9 : decode cL_chords 9 = .ok (.if_icmp .ge 201, 3) := by decide +kernel
theorem dL_chords_12 : decode cL_chords 12 = .ok (.aload_n 0, 1) := by decide +kernel
theorem dL_chords_13 : decode cL_chords 13 = .ok (.iload_n 2, 1) := by decide +kernel
theorem dL_chords_14 : decode cL_chords 14 = .ok (.invokevirtual 120, 3) := by decide +kernel
theorem dL_chords_17 : decode cL_chords 17 = .ok (.istore_n 3, 1) := by decide +kernel
theorem dL_chords_18 : decode cL_chords 18 = .ok (.iload_n 3, 1) := by decide +kernel
theorem dL_chords_19 : decode cL_chords 19 = .ok (.ifCond .lt 72, 3) := by decide +kernel
theorem dL_chords_22 : decode cL_chords 22 = .ok (.iload_n 3, 1) := by decide +kernel
theorem dL_chords_23 : decode cL_chords 23 = .ok (.aload_n 0, 1) := by decide +kernel
theorem dL_chords_24 : decode cL_chords 24 = .ok (.invokevirtual 96, 3) := by decide +kernel
theorem dL_chords_27 : decode cL_chords 27 = .ok (.if_icmp .ge 64, 3) := by decide +kernel
theorem dL_chords_30 : decode cL_chords 30 = .ok (.aload_n 0, 1) := by decide +kernel
theorem dL_chords_31 : decode cL_chords 31 = .ok (.iload_n 2, 1) := by decide +kernel
theorem dL_chords_32 : decode cL_chords 32 = .ok (.invokevirtual 123, 3) := by decide +kernel
theorem dL_chords_35 : decode cL_chords 35 = .ok (.ifCond .lt 56, 3) := by decide +kernel
theorem dL_chords_38 : decode cL_chords 38 = .ok (.aload_n 0, 1) := by decide +kernel
theorem dL_chords_39 : decode cL_chords 39 = .ok (.iload_n 2, 1) := by decide +kernel
theorem dL_chords_40 : decode cL_chords 40 = .ok (.invokevirtual 123, 3) := by decide +kernel
theorem dL_chords_43 : decode cL_chords 43 = .ok (.aload_n 0, 1) := by decide +kernel
theorem dL_chords_44 : decode cL_chords 44 = .ok (.iload_n 3, 1) := by decide +kernel
theorem dL_chords_45 : decode cL_chords 45 = .ok (.invokevirtual 103, 3) := by decide +kernel
theorem dL_chords_48 : decode cL_chords 48 = .ok (.if_icmp .gt 43, 3) := by decide +kernel
theorem dL_chords_51 : decode cL_chords 51 = .ok (.aload_n 0, 1) := by decide +kernel
theorem dL_chords_52 : decode cL_chords 52 = .ok (.iload_n 2, 1) := by decide +kernel
theorem dL_chords_53 : decode cL_chords 53 = .ok (.iconst 0, 1) := by decide +kernel
theorem dL_chords_54 : decode cL_chords 54 = .ok (.invokevirtual 126, 3) := by decide +kernel
theorem dL_chords_57 : decode cL_chords 57 = .ok (.bipush 65, 2) := by decide +kernel
theorem dL_chords_59 : decode cL_chords 59 = .ok (.if_icmp .lt 32, 3) := by decide +kernel
theorem dL_chords_62 : decode cL_chords 62 = .ok (.aload_n 0, 1) := by decide +kernel
theorem dL_chords_63 : decode cL_chords 63 = .ok (.iload_n 2, 1) := by decide +kernel
theorem dL_chords_64 : decode cL_chords 64 = .ok (.iconst 0, 1) := by decide +kernel
theorem dL_chords_65 : decode cL_chords 65 = .ok (.invokevirtual 126, 3) := by decide +kernel
theorem dL_chords_68 : decode cL_chords 68 = .ok (.bipush 71, 2) := by decide +kernel
theorem dL_chords_70 : decode cL_chords 70 = .ok (.if_icmp .gt 21, 3) := by decide +kernel
theorem dL_chords_73 : decode cL_chords 73 = .ok (.aload_n 0, 1) := by decide +kernel
theorem dL_chords_74 : decode cL_chords 74 = .ok (.iload_n 2, 1) := by decide +kernel
theorem dL_chords_75 : decode cL_chords 75 = .ok (.invokevirtual 129, 3) := by decide +kernel
theorem dL_chords_78 : decode cL_chords 78 = .ok (.ifCond .lt 13, 3) := by decide +kernel
theorem dL_chords_81 : decode cL_chords 81 = .ok (.aload_n 0, 1) := by decide +kernel
theorem dL_chords_82 : decode cL_chords 82 = .ok (.iload_n 2, 1) := by decide +kernel
theorem dL_chords_83 : decode cL_chords 83 = .ok (.invokevirtual 129, 3) := by decide +kernel
theorem dL_chords_86 : decode cL_chords 86 = .ok (.bipush 7, 2) := by decide +kernel
theorem dL_chords_88 : decode cL_chords 88 = .ok (.if_icmp .le 5, 3) := by decide +kernel
theorem dL_chords_91 : decode cL_chords 91 = .ok (.iconst 0, 1) := by decide +kernel
theorem dL_chords_92 : decode cL_chords 92 = .ok (.ireturn, 1) := by decide +kernel
theorem dL_chords_93 : decode cL_chords 93 = .ok (.iload_n 2, 1) := by decide +kernel
theorem dL_chords_94 : decode cL_chords 94 = .ok (.ifCond .le 64, 3) := by decide +kernel
theorem dL_chords_97 : decode cL_chords 97 = .ok (.aload_n 0, 1) := by decide +kernel
theorem dL_chords_98 : decode cL_chords 98 = .ok (.iload_n 2, 1) := by decide +kernel
theorem dL_chords_99 : decode cL_chords 99 = .ok (.iconst 1, 1) := by decide +kernel
theorem dL_chords_100 : decode cL_chords 100 = .ok (.isub, 1) := by decide +kernel
theorem dL_chords_101 : decode cL_chords 101 = .ok (.invokevirtual 120, 3) := by decide +kernel
theorem dL_chords_104 : decode cL_chords 104 = .ok (.iload_n 3, 1) := by decide +kernel
theorem dL_chords_105 : decode cL_chords 105 = .ok (.if_icmp .gt 51, 3) := by decide +kernel
theorem dL_chords_108 : decode cL_chords 108 = .ok (.aload_n 0, 1) := by decide +kernel
theorem dL_chords_109 : decode cL_chords 109 = .ok (.iload_n 2, 1) := by decide +kernel
theorem dL_chords_110 : decode cL_chords 110 = .ok (.iconst 1, 1) := by decide +kernel
theorem dL_chords_111 : decode cL_chords 111 = .ok (.isub, 1) := by decide +kernel
theorem dL_chords_112 : decode cL_chords 112 = .ok (.invokevirtual 120, 3) := by decide +kernel
theorem dL_chords_115 : decode cL_chords 115 = .ok (.iload_n 3, 1) := by decide +kernel
theorem dL_chords_116 : decode cL_chords 116 = .ok (.if_icmp .ne 18, 3) := by decide +kernel
theorem dL_chords_119 : decode cL_chords 119 = .ok (.aload_n 0, 1) := by decide +kernel
theorem dL_chords_120 : decode cL_chords 120 = .ok (.iload_n 2, 1) := by decide +kernel
theorem dL_chords_121 : decode cL_chords 121 = .ok (.iconst 1, 1) := by decide +kernel
theorem dL_chords_122 : decode cL_chords 122 = .ok (.isub, 1) := by decide +kernel
theorem dL_chords_123 : decode cL_chords 123 = .ok (.invokevirtual 123, 3) := by decide +kernel
theorem dL_chords_126 : decode cL_chords 126 = .ok (.aload_n 0, 1) := by decide +kernel
theorem dL_chords_127 : decode cL_chords 127 = .ok (.iload_n 2, 1) := by decide +kernel
theorem dL_chords_128 : decode cL_chords 128 = .ok (.invokevirtual 123, 3) := by decide +kernel
theorem dL_chords_131 : decode cL_chords 131 = .ok (.if_icmp .gt 25, 3) := by decide +kernel
theorem dL_chords_134 : decode cL_chords 134 = .ok (.aload_n 0, 1) := by decide +kernel
theorem dL_chords_135 : decode cL_chords 135 = .ok (.iload_n 2, 1) := by decide +kernel
theorem dL_chords_136 : decode cL_chords 136 = .ok (.iconst 1, 1) := by decide +kernel
theorem dL_chords_137 : decode cL_chords 137 = .ok (.isub, 1) := by decide +kernel
theorem dL_chords_138 : decode cL_chords 138 = .ok (.invokevirtual 132, 3) := by decide +kernel
theorem dL_chords_141 : decode cL_chords 141 = .ok (.ifCond .lt 15, 3) := by decide +kernel
theorem dL_chords_144 : decode cL_chords 144 = .ok (.aload_n 0, 1) := by decide +kernel
theorem dL_chords_145 : decode cL_chords 145 = .ok (.iload_n 2, 1) := by decide +kernel
theorem dL_chords_146 : decode cL_chords 146 = .ok (.iconst 1, 1) := by decide +kernel
theorem dL_chords_147 : decode cL_chords 147 = .ok (.isub, 1) := by decide +kernel
theorem dL_chords_148 : decode cL_chords 148 = .ok (.invokevirtual 132, 3) := by decide +kernel
theorem dL_chords_151 : decode cL_chords 151 = .ok (.bipush 6, 2) := by decide +kernel
theorem dL_chords_153 : decode cL_chords 153 = .ok (.if_icmp .le 5, 3) := by decide +kernel
theorem dL_chords_156 : decode cL_chords 156 = .ok (.iconst 0, 1) := by decide +kernel
theorem dL_chords_157 : decode cL_chords 157 = .ok (.ireturn, 1) := by decide +kernel
theorem dL_chords_158 : decode cL_chords 158 = .ok (.aload_n 0, 1) := by decide +kernel
theorem dL_chords_159 : decode cL_chords 159 = .ok (.iload_n 2, 1) := by decide +kernel
theorem dL_chords_160 : decode cL_chords 160 = .ok (.invokevirtual 63, 3) := by decide +kernel
theorem dL_chords_163 : decode cL_chords 163 = .ok (.invokestatic 135, 3) := by decide +kernel
theorem dL_chords_166 : decode cL_chords 166 = .ok (.aload_n 0, 1) := by decide +kernel
theorem dL_chords_167 : decode cL_chords 167 = .ok (.invokevirtual 138, 3) := by decide +kernel
theorem dL_chords_170 : decode cL_chords 170 = .ok (.invokestatic 135, 3) := by decide +kernel
theorem dL_chords_173 : decode cL_chords 173 = .ok (.if_icmp .ne 7, 3) := by decide +kernel
theorem dL_chords_176 : decode cL_chords 176 = .ok (.iconst 1, 1) := by decide +kernel
theorem dL_chords_177 : decode cL_chords 177 = .ok (.goto 4, 3) := by decide +kernel
theorem dL_chords_180 : decode cL_chords 180 = .ok (.iconst 0, 1) := by decide +kernel
theorem dL_chords_181 : decode cL_chords 181 = .ok (.istore 4, 2) := by decide +kernel
theorem dL_chords_183 : decode cL_chords 183 = .ok (.iload 4, 2) := by decide +kernel
theorem dL_chords_185 : decode cL_chords 185 = .ok (.aload_n 0, 1) := by decide +kernel
theorem dL_chords_186 : decode cL_chords 186 = .ok (.iload_n 2, 1) := by decide +kernel
theorem dL_chords_187 : decode cL_chords 187 = .ok (.invokevirtual 129, 3) := by decide +kernel
theorem dL_chords_190 : decode cL_chords 190 = .ok (.iconst 1, 1) := by decide +kernel
theorem dL_chords_191 : decode cL_chords 191 = .ok (.if_icmp .ne 7, 3) := by decide +kernel
theorem dL_chords_194 : decode cL_chords 194 = .ok (.iconst 1, 1) := by decide +kernel
theorem dL_chords_195 : decode cL_chords 195 = .ok (.goto 4, 3) := by decide +kernel
theorem dL_chords_198 : decode cL_chords 198 = .ok (.iconst 0, 1) := by decide +kernel
theorem dL_chords_199 : decode cL_chords 199 = .ok (.if_icmp .eq 5, 3) := by decide +kernel
theorem dL_chords_202 : decode cL_chords 202 = .ok (.iconst 0, 1) := by decide +kernel
theorem dL_chords_203 : decode cL_chords 203 = .ok (.ireturn, 1) := by decide +kernel
theorem dL_chords_204 : decode cL_chords 204 = .ok (.iinc 2 1, 3) := by decide +kernel
theorem dL_chords_207 : decode cL_chords 207 = .ok (.goto (-200), 3) := by decide +kernel
theorem dL_chords_210 : decode cL_chords 210 = .ok (.aload_n 0, 1) := by decide +kernel
theorem dL_chords_211 : decode cL_chords 211 = .ok (.invokevirtual 141, 3) := by decide +kernel
theorem dL_chords_214 : decode cL_chords 214 = .ok (.istore_n 2, 1) := by decide +kernel
theorem dL_chords_215 : decode cL_chords 215 = .ok (.iconst 0, 1) := by decide +kernel
theorem dL_chords_216 : decode cL_chords 216 = .ok (.istore_n 3, 1) := by decide +kernel
theorem dL_chords_217 : decode cL_chords 217 = .ok (.iload_n 3, 1) := by decide +kernel
theorem dL_chords_218 : decode cL_chords 218 = .ok (.bipush 8, 2) := by decide +kernel
theorem dL_chords_220 : decode cL_chords 220 = .ok (.if_icmp .ge 35, 3) := by decide +kernel
theorem dL_chords_223 : decode cL_chords 223 = .ok (.aload_n 0, 1) := by decide +kernel
theorem dL_chords_224 : decode cL_chords 224 = .ok (.iload_n 3, 1) := by decide +kernel
theorem dL_chords_225 : decode cL_chords 225 = .ok (.invokevirtual 144, 3) := by decide +kernel
theorem dL_chords_228 : decode cL_chords 228 = .ok (.aload_n 0, 1) := by decide +kernel
theorem dL_chords_229 : decode cL_chords 229 = .ok (.iload_n 2, 1) := by decide +kernel
theorem dL_chords_230 : decode cL_chords 230 = .ok (.invokevirtual 144, 3) := by decide +kernel
theorem dL_chords_233 : decode cL_chords 233 = .ok (.if_icmp .lt 14, 3) := by decide +kernel
theorem dL_chords_236 : decode cL_chords 236 = .ok (.aload_n 0, 1) := by decide +kernel
theorem dL_chords_237 : decode cL_chords 237 = .ok (.iload_n 3, 1) := by decide +kernel
theorem dL_chords_238 : decode cL_chords 238 = .ok (.invokevirtual 144, 3) := by decide +kernel
theorem dL_chords_241 : decode cL_chords 241 = .ok (.iload_n 3, 1) := by decide +kernel
theorem dL_chords_242 : decode cL_chords 242 = .ok (.iload_n 1, 1) := by decide +kernel
theorem dL_chords_243 : decode cL_chords 243 = .ok (.iadd, 1) := by decide +kernel
theorem dL_chords_244 : decode cL_chords 244 = .ok (.if_icmp .ge 5, 3) := by decide +kernel
theorem dL_chords_247 : decode cL_chords 247 = .ok (.iconst 0, 1) := by decide +kernel
theorem dL_chords_248 : decode cL_chords 248 = .ok (.ireturn, 1) := by decide +kernel
theorem dL_chords_249 : decode cL_chords 249 = .ok (.iinc 3 1, 3) := by decide +kernel
theorem dL_chords_252 : decode cL_chords 252 = .ok (.goto (-35), 3) := by decide +kernel
theorem dL_chords_255 : decode cL_chords 255 = .ok (.aload_n 0, 1) := by decide +kernel
theorem dL_chords_256 : decode cL_chords 256 = .ok (.invokevirtual 147, 3) := by decide +kernel
theorem dL_chords_259 : decode cL_chords 259 = .ok (.istore_n 3, 1) := by decide +kernel
theorem dL_chords_260 : decode cL_chords 260 = .ok (.iload_n 3, 1) := by decide +kernel
theorem dL_chords_261 : decode cL_chords 261 = .ok (.bipush 50, 2) := by decide +kernel
theorem dL_chords_263 : decode cL_chords 263 = .ok (.if_icmp .lt 7, 3) := by decide +kernel
theorem dL_chords_266 : decode cL_chords 266 = .ok (.iconst 1, 1) := by decide +kernel
theorem dL_chords_267 : decode cL_chords 267 = .ok (.goto 4, 3) := by decide +kernel
theorem dL_chords_270 : decode cL_chords 270 = .ok (.iconst 0, 1) := by decide +kernel
theorem dL_chords_271 : decode cL_chords 271 = .ok (.istore 4, 2) := by decide +kernel
theorem dL_chords_273 : decode cL_chords 273 = .ok (.iload 4, 2) := by decide +kernel
theorem dL_chords_275 : decode cL_chords 275 = .ok (.ifCond .eq 10, 3) := by decide +kernel
theorem dL_chords_278 : decode cL_chords 278 = .ok (.iload_n 3, 1) := by decide +kernel
theorem dL_chords_279 : decode cL_chords 279 = .ok (.bipush 100, 2) := by decide +kernel
theorem dL_chords_281 : decode cL_chords 281 = .ok (.isub, 1) := by decide +kernel
theorem dL_chords_282 : decode cL_chords 282 = .ok (.goto 4, 3) := by decide +kernel
theorem dL_chords_285 : decode cL_chords 285 = .ok (.iload_n 3, 1) := by decide +kernel
theorem dL_chords_286 : decode cL_chords 286 = .ok (.istore 5, 2) := by decide +kernel
theorem dL_chords_288 : decode cL_chords 288 = .ok (.aload_n 0, 1) := by decide +kernel
theorem dL_chords_289 : decode cL_chords 289 = .ok (.iload 5, 2) := by decide +kernel
theorem dL_chords_291 : decode cL_chords 291 = .ok (.iload 4, 2) := by decide +kernel
theorem dL_chords_293 : decode cL_chords 293 = .ok (.invokevirtual 150, 3) := by decide +kernel
theorem dL_chords_296 : decode cL_chords 296 = .ok (.aload_n 0, 1) := by decide +kernel
theorem dL_chords_297 : decode cL_chords 297 = .ok (.iconst 0, 1) := by decide +kernel
theorem dL_chords_298 : decode cL_chords 298 = .ok (.iconst 0, 1) := by decide +kernel
theorem dL_chords_299 : decode cL_chords 299 = .ok (.invokevirtual 150, 3) := by decide +kernel
theorem dL_chords_302 : decode cL_chords 302 = .ok (.if_icmp .lt 31, 3) := by decide +kernel
theorem dL_chords_305 : decode cL_chords 305 = .ok (.aload_n 0, 1) := by decide +kernel
theorem dL_chords_306 : decode cL_chords 306 = .ok (.invokevirtual 153, 3) := by decide +kernel
theorem dL_chords_309 : decode cL_chords 309 = .ok (.aload_n 0, 1) := by decide +kernel
theorem dL_chords_310 : decode cL_chords 310 = .ok (.invokevirtual 138, 3) := by decide +kernel
theorem dL_chords_313 : decode cL_chords 313 = .ok (.aload_n 0, 1) := by decide +kernel
theorem dL_chords_314 : decode cL_chords 314 = .ok (.invokevirtual 156, 3) := by decide +kernel
theorem dL_chords_317 : decode cL_chords 317 = .ok (.ifCond .eq 7, 3) := by decide +kernel
theorem dL_chords_320 : decode cL_chords 320 = .ok (.iconst 3, 1) := by decide +kernel
theorem dL_chords_321 : decode cL_chords 321 = .ok (.goto 4, 3) := by decide +kernel
theorem dL_chords_324 : decode cL_chords 324 = .ok (.iconst 0, 1) := by decide +kernel
theorem dL_chords_325 : decode cL_chords 325 = .ok (.isub, 1) := by decide +kernel
theorem dL_chords_326 : decode cL_chords 326 = .ok (.if_icmp .ne 7, 3) := by decide +kernel
theorem dL_chords_329 : decode cL_chords 329 = .ok (.iconst 1, 1) := by decide +kernel
theorem dL_chords_330 : decode cL_chords 330 = .ok (.goto 4, 3) := by decide +kernel
theorem dL_chords_333 : decode cL_chords 333 = .ok (.iconst 0, 1) := by decide +kernel
theorem dL_chords_334 : decode cL_chords 334 = .ok (.ireturn, 1) := by decide +kernel
theorem dL_transposes_0 : decode cL_transposes 0 = .ok (.aload_n 0, 1) := by decide +kernel
theorem dL_transposes_1 : decode cL_transposes 1 = .ok (.invokevirtual 90, 3) := by decide +kernel
theorem dL_transposes_4 : decode cL_transposes 4 = .ok (.istore_n 2, 1) := by decide +kernel
theorem dL_transposes_5 : decode cL_transposes 5 = .ok (.bipush 40, 2) := by decide +kernel
theorem dL_transposes_7 : decode cL_transposes 7 = .ok (.newarray .int, 2) := by decide +kernel
theorem dL_transposes_9 : decode cL_transposes 9 = .ok (.astore_n 3, 1) := by decide +kernel
theorem dL_transposes_10 : decode cL_transposes 10 = .ok (.bipush 40, 2) := by decide +kernel
theorem dL_transposes_12 : decode cL_transposes 12 = .ok (.newarray .int, 2) := by decide +kernel
theorem dL_transposes_14 : decode cL_transposes 14 = .ok (.astore 4, 2) := by decide +kernel
theorem dL_transposes_16 : decode cL_transposes 16 = .ok (.iconst 0, 1) := by decide +kernel
theorem dL_transposes_17 : decode cL_transposes 17 = .ok (.istore 5, 2) := by decide +kernel
theorem dL_transposes_19 : decode cL_transposes 19 = .ok (.iload 5, 2) := by decide +kernel
theorem dL_transposes_21 : decode cL_transposes 21 = .ok (.iload_n 2, 1) := by decide +kernel
theorem dL_transposes_22 : decode cL_transposes 22 = .ok (.if_icmp .ge 52, 3) := by decide +kernel
theorem dL_transposes_25 : decode cL_transposes 25 = .ok (.aload_n 3, 1) := by decide +kernel
theorem dL_transposes_26 : decode cL_transposes 26 = .ok (.iload 5, 2) := by decide +kernel
theorem dL_transposes_28 : decode cL_transposes 28 = .ok (.aload_n 0, 1) := by decide +kernel
theorem dL_transposes_29 : decode cL_transposes 29 = .ok (.iload 5, 2) := by decide +kernel
theorem dL_transposes_31 : decode cL_transposes 31 = .ok (.invokevirtual 63, 3) := by decide +kernel
theorem dL_transposes_34 : decode cL_transposes 34 = .ok (.invokestatic 135, 3) := by decide +kernel
theorem dL_transposes_37 : decode cL_transposes 37 = .ok (.iastore, 1) := by decide +kernel
theorem dL_transposes_38 : decode cL_transposes 38 = .ok (.aload 4, 2) := by decide +kernel
theorem dL_transposes_40 : decode cL_transposes 40 = .ok (.iload 5, 2) := by decide +kernel
theorem dL_transposes_42 : decode cL_transposes 42 = .ok (.aload_n 0, 1) := by decide +kernel
theorem dL_transposes_43 : decode cL_transposes 43 = .ok (.iload 5, 2) := by decide +kernel
theorem dL_transposes_45 : decode cL_transposes 45 = .ok (.invokevirtual 160, 3) := by decide +kernel
theorem dL_transposes_48 : decode cL_transposes 48 = .ok (.bipush 100, 2) := by decide +kernel
theorem dL_transposes_50 : decode cL_transposes 50 = .ok (.if_icmp .ne 8, 3) := by decide +kernel
theorem dL_transposes_53 : decode cL_transposes 53 = .ok (.bipush 100, 2) := by decide +kernel
theorem dL_transposes_55 : decode cL_transposes 55 = .ok (.goto 12, 3) := by decide +kernel
theorem dL_transposes_58 : decode cL_transposes 58 = .ok (.aload_n 0, 1) := by decide +kernel
theorem dL_transposes_59 : decode cL_transposes 59 = .ok (.iload 5, 2) := by decide +kernel
theorem dL_transposes_61 : decode cL_transposes 61 = .ok (.invokevirtual 160, 3) := by decide +kernel
theorem dL_transposes_64 : decode cL_transposes 64 = .ok (.invokestatic 135, 3) := by decide +kernel
theorem dL_transposes_67 : decode cL_transposes 67 = .ok (.iastore, 1) := by decide +kernel
theorem dL_transposes_68 : decode cL_transposes 68 = .ok (.iinc 5 1, 3) := by decide +kernel
theorem dL_transposes_71 : decode cL_transposes 71 = .ok (.goto (-52), 3) := by decide +kernel
theorem dL_transposes_74 : decode cL_transposes 74 = .ok (.aload_n 0, 1) := by decide +kernel
theorem dL_transposes_75 : decode cL_transposes 75 = .ok (.invokevirtual 86, 3) := by decide +kernel
theorem dL_transposes_78 : decode cL_transposes 78 = .ok (.lstore 5, 2) := by decide +kernel
theorem dL_transposes_80 : decode cL_transposes 80 = .ok (.aload_n 0, 1) := by decide +kernel
theorem dL_transposes_81 : decode cL_transposes 81 = .ok (.invokevirtual 138, 3) := by decide +kernel
theorem dL_transposes_84 : decode cL_transposes 84 = .ok (.invokestatic 135, 3) := by decide +kernel
theorem dL_transposes_87 : decode cL_transposes 87 = .ok (.istore 7, 2) := by decide +kernel
theorem dL_transposes_89 : decode cL_transposes 89 = .ok (.aload_n 0, 1) := by decide +kernel
theorem dL_transposes_90 : decode cL_transposes 90 = .ok (.iconst 0, 1) := by decide +kernel
theorem dL_transposes_91 : decode cL_transposes 91 = .ok (.invokevirtual 129, 3) := by decide +kernel
theorem dL_transposes_94 : decode cL_transposes 94 = .ok (.istore 8, 2) := by decide +kernel
theorem dL_transposes_96 : decode cL_transposes 96 = .ok (.aload_n 0, 1) := by decide +kernel
theorem dL_transposes_97 : decode cL_transposes 97 = .ok (.iload_n 1, 1) := by decide +kernel
theorem dL_transposes_98 : decode cL_transposes 98 = .ok (.invokestatic 106, 3) := by decide +kernel
theorem dL_transposes_101 : decode cL_transposes 101 = .ok (.istore 9, 2) := by decide +kernel
theorem dL_transposes_103 : decode cL_transposes 103 = .ok (.iload 9, 2) := by decide +kernel
theorem dL_transposes_105 : decode cL_transposes 105 = .ok (.aload_n 0, 1) := by decide +kernel
theorem dL_transposes_106 : decode cL_transposes 106 = .ok (.invokevirtual 153, 3) := by decide +kernel
theorem dL_transposes_109 : decode cL_transposes 109 = .ok (.if_icmp .ne 33, 3) := by decide +kernel
theorem dL_transposes_112 : decode cL_transposes 112 = .ok (.aload_n 0, 1) := by decide +kernel
theorem dL_transposes_113 : decode cL_transposes 113 = .ok (.invokevirtual 138, 3) := by decide +kernel
theorem dL_transposes_116 : decode cL_transposes 116 = .ok (.invokestatic 135, 3) := by decide +kernel
theorem dL_transposes_119 : decode cL_transposes 119 = .ok (.iload 7, 2) := by decide +kernel
theorem dL_transposes_121 : decode cL_transposes 121 = .ok (.iload_n 1, 1) := by decide +kernel
theorem dL_transposes_122 : decode cL_transposes 122 = .ok (.iadd, 1) := by decide +kernel
theorem dL_transposes_123 : decode cL_transposes 123 = .ok (.bipush 12, 2) := by decide +kernel
theorem dL_transposes_125 : decode cL_transposes 125 = .ok (.iadd, 1) := by decide +kernel
theorem dL_transposes_126 : decode cL_transposes 126 = .ok (.bipush 12, 2) := by decide +kernel
theorem dL_transposes_128 : decode cL_transposes 128 = .ok (.irem, 1) := by decide +kernel
theorem dL_transposes_129 : decode cL_transposes 129 = .ok (.if_icmp .ne 13, 3) := by decide +kernel
theorem dL_transposes_132 : decode cL_transposes 132 = .ok (.aload_n 0, 1) := by decide +kernel
theorem dL_transposes_133 : decode cL_transposes 133 = .ok (.iconst 0, 1) := by decide +kernel
theorem dL_transposes_134 : decode cL_transposes 134 = .ok (.invokevirtual 129, 3) := by decide +kernel
theorem dL_transposes_137 : decode cL_transposes 137 = .ok (.iload 8, 2) := by decide +kernel
theorem dL_transposes_139 : decode cL_transposes 139 = .ok (.if_icmp .eq 5, 3) := by decide +kernel
theorem dL_transposes_142 : decode cL_transposes 142 = .ok (.iconst 0, 1) := by decide +kernel
theorem dL_transposes_143 : decode cL_transposes 143 = .ok (.ireturn, 1) := by decide +kernel
theorem dL_transposes_144 : decode cL_transposes 144 = .ok (.iconst 0, 1) := by decide +kernel
theorem dL_transposes_145 : decode cL_transposes 145 = .ok (.istore 10, 2) := by decide +kernel
theorem dL_transposes_147 : decode cL_transposes 147 = .ok (.iload 10, 2) := by decide +kernel
theorem dL_transposes_149 : decode cL_transposes 149 = .ok (.iload_n 2, 1) := by decide +kernel
theorem dL_transposes_150 : decode cL_transposes 150 = .ok (.if_icmp .ge 101, 3) := by decide +kernel
theorem dL_transposes_153 : decode cL_transposes 153 = .ok (.aload_n 0, 1) := by decide +kernel
theorem dL_transposes_154 : decode cL_transposes 154 = .ok (.iload 10, 2) := by decide +kernel
theorem dL_transposes_156 : decode cL_transposes 156 = .ok (.invokevirtual 160, 3) := by decide +kernel
theorem dL_transposes_159 : decode cL_transposes 159 = .ok (.istore 11, 2) := by decide +kernel
theorem dL_transposes_161 : decode cL_transposes 161 = .ok (.aload_n 0, 1) := by decide +kernel
theorem dL_transposes_162 : decode cL_transposes 162 = .ok (.iload 10, 2) := by decide +kernel
theorem dL_transposes_164 : decode cL_transposes 164 = .ok (.invokevirtual 63, 3) := by decide +kernel
theorem dL_transposes_167 : decode cL_transposes 167 = .ok (.invokestatic 135, 3) := by decide +kernel
theorem dL_transposes_170 : decode cL_transposes 170 = .ok (.aload_n 3, 1) := by decide +kernel
theorem dL_transposes_171 : decode cL_transposes 171 = .ok (.iload 10, 2) := by decide +kernel
theorem dL_transposes_173 : decode cL_transposes 173 = .ok (.iaload, 1) := by decide +kernel
theorem dL_transposes_174 : decode cL_transposes 174 = .ok (.iload_n 1, 1) := by decide +kernel
theorem dL_transposes_175 : decode cL_transposes 175 = .ok (.iadd, 1) := by decide +kernel
theorem dL_transposes_176 : decode cL_transposes 176 = .ok (.bipush 12, 2) := by decide +kernel
theorem dL_transposes_178 : decode cL_transposes 178 = .ok (.iadd, 1) := by decide +kernel
theorem dL_transposes_179 : decode cL_transposes 179 = .ok (.bipush 12, 2) := by decide +kernel
theorem dL_transposes_181 : decode cL_transposes 181 = .ok (.irem, 1) := by decide +kernel
theorem dL_transposes_182 : decode cL_transposes 182 = .ok (.if_icmp .ne 61, 3) := by decide +kernel
theorem dL_transposes_185 : decode cL_transposes 185 = .ok (.iload 11, 2) := by decide +kernel
theorem dL_transposes_187 : decode cL_transposes 187 = .ok (.bipush 100, 2) := by decide +kernel
theorem dL_transposes_189 : decode cL_transposes 189 = .ok (.if_icmp .ne 7, 3) := by decide +kernel
theorem dL_transposes_192 : decode cL_transposes 192 = .ok (.iconst 1, 1) := by decide +kernel
theorem dL_transposes_193 : decode cL_transposes 193 = .ok (.goto 4, 3) := by decide +kernel
theorem dL_transposes_196 : decode cL_transposes 196 = .ok (.iconst 0, 1) := by decide +kernel
theorem dL_transposes_197 : decode cL_transposes 197 = .ok (.aload 4, 2) := by decide +kernel
theorem dL_transposes_199 : decode cL_transposes 199 = .ok (.iload 10, 2) := by decide +kernel
theorem dL_transposes_201 : decode cL_transposes 201 = .ok (.iaload, 1) := by decide +kernel
theorem dL_transposes_202 : decode cL_transposes 202 = .ok (.bipush 100, 2) := by decide +kernel
theorem dL_transposes_204 : decode cL_transposes 204 = .ok (.if_icmp .ne 7, 3) := by decide +kernel
theorem dL_transposes_207 : decode cL_transposes 207 = .ok (.iconst 1, 1) := by decide +kernel
theorem dL_transposes_208 : decode cL_transposes 208 = .ok (.goto 4, 3) := by decide +kernel
theorem dL_transposes_211 : decode cL_transposes 211 = .ok (.iconst 0, 1) := by decide +kernel
theorem dL_transposes_212 : decode cL_transposes 212 = .ok (.if_icmp .ne 31, 3) := by decide +kernel
theorem dL_transposes_215 : decode cL_transposes 215 = .ok (.iload 11, 2) := by decide +kernel
theorem dL_transposes_217 : decode cL_transposes 217 = .ok (.bipush 100, 2) := by decide +kernel
theorem dL_transposes_219 : decode cL_transposes 219 = .ok (.if_icmp .eq 26, 3) := by decide +kernel
theorem dL_transposes_222 : decode cL_transposes 222 = .ok (.iload 11, 2) := by decide +kernel
theorem dL_transposes_224 : decode cL_transposes 224 = .ok (.invokestatic 135, 3) := by decide +kernel
theorem dL_transposes_227 : decode cL_transposes 227 = .ok (.aload 4, 2) := by decide +kernel
theorem dL_transposes_229 : decode cL_transposes 229 = .ok (.iload 10, 2) := by decide +kernel
theorem dL_transposes_231 : decode cL_transposes 231 = .ok (.iaload, 1) := by decide +kernel
theorem dL_transposes_232 : decode cL_transposes 232 = .ok (.iload_n 1, 1) := by decide +kernel
theorem dL_transposes_233 : decode cL_transposes 233 = .ok (.iadd, 1) := by decide +kernel
theorem dL_transposes_234 : decode cL_transposes 234 = .ok (.bipush 12, 2) := by decide +kernel
theorem dL_transposes_236 : decode cL_transposes 236 = .ok (.iadd, 1) := by decide +kernel
theorem dL_transposes_237 : decode cL_transposes 237 = .ok (.bipush 12, 2) := by decide +kernel
theorem dL_transposes_239 : decode cL_transposes 239 = .ok (.irem, 1) := by decide +kernel
theorem dL_transposes_240 : decode cL_transposes 240 = .ok (.if_icmp .eq 5, 3) := by decide +kernel
theorem dL_transposes_243 : decode cL_transposes 243 = .ok (.iconst 0, 1) := by decide +kernel
theorem dL_transposes_244 : decode cL_transposes 244 = .ok (.ireturn, 1) := by decide +kernel
theorem dL_transposes_245 : decode cL_transposes 245 = .ok (.iinc 10 1, 3) := by decide +kernel
theorem dL_transposes_248 : decode cL_transposes 248 = .ok (.goto (-101), 3) := by decide +kernel
theorem dL_transposes_251 : decode cL_transposes 251 = .ok (.aload_n 0, 1) := by decide +kernel
theorem dL_transposes_252 : decode cL_transposes 252 = .ok (.iload_n 1, 1) := by decide +kernel
theorem dL_transposes_253 : decode cL_transposes 253 = .ok (.ineg, 1) := by decide +kernel
theorem dL_transposes_254 : decode cL_transposes 254 = .ok (.invokestatic 106, 3) := by decide +kernel
theorem dL_transposes_257 : decode cL_transposes 257 = .ok (.bipush (-6), 2) := by decide +kernel
theorem dL_transposes_259 : decode cL_transposes 259 = .ok (.if_icmp .lt 22, 3) := by decide +kernel
theorem dL_transposes_262 : decode cL_transposes 262 = .ok (.aload_n 0, 1) := by decide +kernel
theorem dL_transposes_263 : decode cL_transposes 263 = .ok (.invokevirtual 138, 3) := by decide +kernel
theorem dL_transposes_266 : decode cL_transposes 266 = .ok (.invokestatic 135, 3) := by decide +kernel
theorem dL_transposes_269 : decode cL_transposes 269 = .ok (.iload 7, 2) := by decide +kernel
theorem dL_transposes_271 : decode cL_transposes 271 = .ok (.if_icmp .ne 10, 3) := by decide +kernel
theorem dL_transposes_274 : decode cL_transposes 274 = .ok (.aload_n 0, 1) := by decide +kernel
theorem dL_transposes_275 : decode cL_transposes 275 = .ok (.invokevirtual 163, 3) := by decide +kernel
theorem dL_transposes_278 : decode cL_transposes 278 = .ok (.ifCond .eq 5, 3) := by decide +kernel
theorem dL_transposes_281 : decode cL_transposes 281 = .ok (.iconst 0, 1) := by decide +kernel
theorem dL_transposes_282 : decode cL_transposes 282 = .ok (.ireturn, 1) := by decide +kernel
theorem dL_transposes_283 : decode cL_transposes 283 = .ok (.iconst 0, 1) := by decide +kernel
theorem dL_transposes_284 : decode cL_transposes 284 = .ok (.istore 10, 2) := by decide +kernel
theorem dL_transposes_286 : decode cL_transposes 286 = .ok (.iload 10, 2) := by decide +kernel
theorem dL_transposes_288 : decode cL_transposes 288 = .ok (.iload_n 2, 1) := by decide +kernel
theorem dL_transposes_289 : decode cL_transposes 289 = .ok (.if_icmp .ge 27, 3) := by decide +kernel
theorem dL_transposes_292 : decode cL_transposes 292 = .ok (.aload_n 0, 1) := by decide +kernel
theorem dL_transposes_293 : decode cL_transposes 293 = .ok (.iload 10, 2) := by decide +kernel
theorem dL_transposes_295 : decode cL_transposes 295 = .ok (.invokevirtual 63, 3) := by decide +kernel
theorem dL_transposes_298 : decode cL_transposes 298 = .ok (.invokestatic 135, 3) := by decide +kernel
theorem dL_transposes_301 : decode cL_transposes 301 = .ok (.aload_n 3, 1) := by decide +kernel
theorem dL_transposes_302 : decode cL_transposes 302 = .ok (.iload 10, 2) := by decide +kernel
theorem dL_transposes_304 : decode cL_transposes 304 = .ok (.iaload, 1) := by decide +kernel
theorem dL_transposes_305 : decode cL_transposes 305 = .ok (.if_icmp .eq 5, 3) := by decide +kernel
theorem dL_transposes_308 : decode cL_transposes 308 = .ok (.iconst 0, 1) := by decide +kernel
theorem dL_transposes_309 : decode cL_transposes 309 = .ok (.ireturn, 1) := by decide +kernel
theorem dL_transposes_310 : decode cL_transposes 310 = .ok (.iinc 10 1, 3) := by decide +kernel
theorem dL_transposes_313 : decode cL_transposes 313 = .ok (.goto (-27), 3) := by decide +kernel
theorem dL_transposes_316 : decode cL_transposes 316 = .ok (.aload_n 0, 1) := by decide +kernel
theorem dL_transposes_317 : decode cL_transposes 317 = .ok (.invokestatic 166, 3) := by decide +kernel
theorem dL_transposes_320 : decode cL_transposes 320 = .ok (.ifCond .lt 31, 3) := by decide +kernel
theorem dL_transposes_323 : decode cL_transposes 323 = .ok (.aload_n 0, 1) := by decide +kernel
theorem dL_transposes_324 : decode cL_transposes 324 = .ok (.invokestatic 166, 3) := by decide +kernel
theorem dL_transposes_327 : decode cL_transposes 327 = .ok (.ifCond .lt 24, 3) := by decide +kernel
theorem dL_transposes_330 : decode cL_transposes 330 = .ok (.aload_n 0, 1) := by decide +kernel
theorem dL_transposes_331 : decode cL_transposes 331 = .ok (.invokestatic 166, 3) := by decide +kernel
theorem dL_transposes_334 : decode cL_transposes 334 = .ok (.ifCond .lt 17, 3) := by decide +kernel
theorem dL_transposes_337 : decode cL_transposes 337 = .ok (.aload_n 0, 1) := by decide +kernel
theorem dL_transposes_338 : decode cL_transposes 338 = .ok (.invokevirtual 86, 3) := by decide +kernel
theorem dL_transposes_341 : decode cL_transposes 341 = .ok (.lload 5, 2) := by decide +kernel
theorem dL_transposes_343 : decode cL_transposes 343 = .ok (.lcmp, 1) := by decide +kernel
theorem dL_transposes_344 : decode cL_transposes 344 = .ok (.ifCond .ne 7, 3) := by decide +kernel
theorem dL_transposes_347 : decode cL_transposes 347 = .ok (.iconst 1, 1) := by decide +kernel
theorem dL_transposes_348 : decode cL_transposes 348 = .ok (.goto 4, 3) := by decide +kernel
theorem dL_transposes_351 : decode cL_transposes 351 = .ok (.iconst 0, 1) := by decide +kernel
theorem dL_transposes_352 : decode cL_transposes 352 = .ok (.ireturn, 1) := by decide +kernel
theorem dL_rows_0 : decode cL_rows 0 = .ok (.aload_n 0, 1) := by decide +kernel
theorem dL_rows_1 : decode cL_rows 1 = .ok (.iload_n 1, 1) := by decide +kernel
theorem dL_rows_2 : decode cL_rows 2 = .ok (.invokevirtual 170, 3) := by decide +kernel
theorem dL_rows_5 : decode cL_rows 5 = .ok (.istore_n 2, 1) := by decide +kernel
theorem dL_rows_6 : decode cL_rows 6 = .ok (.iconst 0, 1) := by decide +kernel
theorem dL_rows_7 : decode cL_rows 7 = .ok (.istore_n 3, 1) := by decide +kernel
theorem dL_rows_8 : decode cL_rows 8 = .ok (.iload_n 3, 1) := by decide +kernel
theorem dL_rows_9 : decode cL_rows 9 = .ok (.aload_n 0, 1) := by decide +kernel
theorem dL_rows_10 : decode cL_rows 10 = .ok (.invokevirtual 96, 3) := by decide +kernel
theorem dL_rows_13 : decode cL_rows 13 = .ok (.if_icmp .ge 218, 3) := by decide +kernel
theorem dL_rows_16 : decode cL_rows 16 = .ok (.aload_n 0, 1) := by decide +kernel
theorem dL_rows_17 : decode cL_rows 17 = .ok (.iload_n 3, 1) := by decide +kernel
theorem dL_rows_18 : decode cL_rows 18 = .ok (.invokevirtual 173, 3) := by decide +kernel
theorem dL_rows_21 : decode cL_rows 21 = .ok (.istore 4, 2) := by decide +kernel
theorem dL_rows_23 : decode cL_rows 23 = .ok (.iconst 0, 1) := by decide +kernel
theorem dL_rows_24 : decode cL_rows 24 = .ok (.istore 5, 2) := by decide +kernel
theorem dL_rows_26 : decode cL_rows 26 = .ok (.iconst 0, 1) := by decide +kernel
theorem dL_rows_27 : decode cL_rows 27 = .ok (.istore 6, 2) := by decide +kernel
theorem dL_rows_29 : decode cL_rows 29 = .ok (.iload 6, 2) := by decide +kernel
theorem dL_rows_31 : decode cL_rows 31 = .ok (.iload 4, 2) := by decide +kernel
theorem dL_rows_33 : decode cL_rows 33 = .ok (.if_icmp .ge 133, 3) := by decide +kernel
theorem dL_rows_36 : decode cL_rows 36 = .ok (.aload_n 0, 1) := by decide +kernel
theorem dL_rows_37 : decode cL_rows 37 = .ok (.iload_n 3, 1) := by decide +kernel
theorem dL_rows_38 : decode cL_rows 38 = .ok (.iload 6, 2) := by decide +kernel
theorem dL_rows_40 : decode cL_rows 40 = .ok (.iconst 0, 1) := by decide +kernel
theorem dL_rows_41 : decode cL_rows 41 = .ok (.invokevirtual 176, 3) := by decide +kernel
theorem dL_rows_44 : decode cL_rows 44 = .ok (.istore 7, 2) := by decide +kernel
theorem dL_rows_46 : decode cL_rows 46 = .ok (.aload_n 0, 1) := by decide +kernel
theorem dL_rows_47 : decode cL_rows 47 = .ok (.iload_n 3, 1) := by decide +kernel
theorem dL_rows_48 : decode cL_rows 48 = .ok (.iload 6, 2) := by decide +kernel
theorem dL_rows_50 : decode cL_rows 50 = .ok (.iconst 1, 1) := by decide +kernel
theorem dL_rows_51 : decode cL_rows 51 = .ok (.invokevirtual 176, 3) := by decide +kernel
theorem dL_rows_54 : decode cL_rows 54 = .ok (.istore 8, 2) := by decide +kernel
theorem dL_rows_56 : decode cL_rows 56 = .ok (.aload_n 0, 1) := by decide +kernel
theorem dL_rows_57 : decode cL_rows 57 = .ok (.iload_n 3, 1) := by decide +kernel
theorem dL_rows_58 : decode cL_rows 58 = .ok (.iload 6, 2) := by decide +kernel
theorem dL_rows_60 : decode cL_rows 60 = .ok (.iconst 0, 1) := by decide +kernel
theorem dL_rows_61 : decode cL_rows 61 = .ok (.iload 7, 2) := by decide +kernel
theorem dL_rows_63 : decode cL_rows 63 = .ok (.invokevirtual 180, 3) := by decide +kernel
theorem dL_rows_66 : decode cL_rows 66 = .ok (.iconst (-1), 1) := by decide +kernel
theorem dL_rows_67 : decode cL_rows 67 = .ok (.if_icmp .ne 39, 3) := by decide +kernel
theorem dL_rows_70 : decode cL_rows 70 = .ok (.aload_n 0, 1) := by decide +kernel
theorem dL_rows_71 : decode cL_rows 71 = .ok (.iload_n 3, 1) := by decide +kernel
theorem dL_rows_72 : decode cL_rows 72 = .ok (.iload 6, 2) := by decide +kernel
theorem dL_rows_74 : decode cL_rows 74 = .ok (.iconst 1, 1) := by decide +kernel
theorem dL_rows_75 : decode cL_rows 75 = .ok (.iload 8, 2) := by decide +kernel
theorem dL_rows_77 : decode cL_rows 77 = .ok (.invokevirtual 180, 3) := by decide +kernel
theorem dL_rows_80 : decode cL_rows 80 = .ok (.iconst (-1), 1) := by decide +kernel
theorem dL_rows_81 : decode cL_rows 81 = .ok (.if_icmp .ne 25, 3) := by decide +kernel
theorem dL_rows_84 : decode cL_rows 84 = .ok (.iload 7, 2) := by decide +kernel
theorem dL_rows_86 : decode cL_rows 86 = .ok (.ifCond .le 22, 3) := by decide +kernel
theorem dL_rows_89 : decode cL_rows 89 = .ok (.aload_n 0, 1) := by decide +kernel
theorem dL_rows_90 : decode cL_rows 90 = .ok (.iload_n 3, 1) := by decide +kernel
theorem dL_rows_91 : decode cL_rows 91 = .ok (.iload 6, 2) := by decide +kernel
theorem dL_rows_93 : decode cL_rows 93 = .ok (.iconst 0, 1) := by decide +kernel
theorem dL_rows_94 : decode cL_rows 94 = .ok (.iload 7, 2) := by decide +kernel
theorem dL_rows_96 : decode cL_rows 96 = .ok (.iconst 1, 1) := by decide +kernel
theorem dL_rows_97 : decode cL_rows 97 = .ok (.isub, 1) := by decide +kernel
theorem dL_rows_98 : decode cL_rows 98 = .ok (.invokevirtual 180, 3) := by decide +kernel
theorem dL_rows_101 : decode cL_rows 101 = .ok (.bipush 32, 2) := by decide +kernel
theorem dL_rows_103 : decode cL_rows 103 = .ok (.if_icmp .ne 5, 3) := by decide +kernel
theorem dL_rows_106 : decode cL_rows 106 = .ok (.iconst 0, 1) := by decide +kernel
theorem dL_rows_107 : decode cL_rows 107 = .ok (.ireturn, 1) := by decide +kernel
theorem dL_rows_108 : decode cL_rows 108 = .ok (.iconst 0, 1) := by decide +kernel
theorem dL_rows_109 : decode cL_rows 109 = .ok (.istore 9, 2) := by decide +kernel
theorem dL_rows_111 : decode cL_rows 111 = .ok (.iload 9, 2) := by decide +kernel
theorem dL_rows_113 : decode cL_rows 113 = .ok (.iload 8, 2) := by decide +kernel
theorem dL_rows_115 : decode cL_rows 115 = .ok (.if_icmp .ge 45, 3) := by decide +kernel
theorem dL_rows_118 : decode cL_rows 118 = .ok (.aload_n 0, 1) := by decide +kernel
theorem dL_rows_119 : decode cL_rows 119 = .ok (.iload_n 3, 1) := by decide +kernel
theorem dL_rows_120 : decode cL_rows 120 = .ok (.iload 6, 2) := by decide +kernel
theorem dL_rows_122 : decode cL_rows 122 = .ok (.iconst 1, 1) := by decide +kernel
theorem dL_rows_123 : decode cL_rows 123 = .ok (.iload 9, 2) := by decide +kernel
theorem dL_rows_125 : decode cL_rows 125 = .ok (.invokevirtual 180, 3) := by decide +kernel
theorem dL_rows_128 : decode cL_rows 128 = .ok (.istore 10, 2) := by decide +kernel
theorem dL_rows_130 : decode cL_rows 130 = .ok (.iload 5, 2) := by decide +kernel
theorem dL_rows_132 : decode cL_rows 132 = .ok (.iload 10, 2) := by decide +kernel
theorem dL_rows_134 : decode cL_rows 134 = .ok (.bipush 32, 2) := by decide +kernel
theorem dL_rows_136 : decode cL_rows 136 = .ok (.if_icmp .eq 14, 3) := by decide +kernel
theorem dL_rows_139 : decode cL_rows 139 = .ok (.iload 10, 2) := by decide +kernel
theorem dL_rows_141 : decode cL_rows 141 = .ok (.bipush 45, 2) := by decide +kernel
theorem dL_rows_143 : decode cL_rows 143 = .ok (.if_icmp .eq 7, 3) := by decide +kernel
theorem dL_rows_146 : decode cL_rows 146 = .ok (.iconst 1, 1) := by decide +kernel
theorem dL_rows_147 : decode cL_rows 147 = .ok (.goto 4, 3) := by decide +kernel
theorem dL_rows_150 : decode cL_rows 150 = .ok (.iconst 0, 1) := by decide +kernel
theorem dL_rows_151 : decode cL_rows 151 = .ok (.iadd, 1) := by decide +kernel
theorem dL_rows_152 : decode cL_rows 152 = .ok (.istore 5, 2) := by decide +kernel
theorem dL_rows_154 : decode cL_rows 154 = .ok (.iinc 9 1, 3) := by decide +kernel
theorem dL_rows_157 : decode cL_rows 157 = .ok (.goto (-46), 3) := by decide +kernel
theorem dL_rows_160 : decode cL_rows 160 = .ok (.iinc 6 1, 3) := by decide +kernel
theorem dL_rows_163 : decode cL_rows 163 = .ok (.goto (-134), 3) := by decide +kernel
theorem dL_rows_166 : decode cL_rows 166 = .ok (.iconst 0, 1) := by decide +kernel
theorem dL_rows_167 : decode cL_rows 167 = .ok (.istore 6, 2) := by decide +kernel
theorem dL_rows_169 : decode cL_rows 169 = .ok (.iconst 0, 1) := by decide +kernel
theorem dL_rows_170 : decode cL_rows 170 = .ok (.istore 7, 2) := by decide +kernel
theorem dL_rows_172 : decode cL_rows 172 = .ok (.iload 7, 2) := by decide +kernel
theorem dL_rows_174 : decode cL_rows 174 = .ok (.aload_n 0, 1) := by decide +kernel
theorem dL_rows_175 : decode cL_rows 175 = .ok (.iload_n 3, 1) := by decide +kernel
theorem dL_rows_176 : decode cL_rows 176 = .ok (.invokevirtual 103, 3) := by decide +kernel
theorem dL_rows_179 : decode cL_rows 179 = .ok (.if_icmp .ge 31, 3) := by decide +kernel
theorem dL_rows_182 : decode cL_rows 182 = .ok (.iload 6, 2) := by decide +kernel
theorem dL_rows_184 : decode cL_rows 184 = .ok (.aload_n 0, 1) := by decide +kernel
theorem dL_rows_185 : decode cL_rows 185 = .ok (.iload_n 3, 1) := by decide +kernel
theorem dL_rows_186 : decode cL_rows 186 = .ok (.iload 7, 2) := by decide +kernel
theorem dL_rows_188 : decode cL_rows 188 = .ok (.invokevirtual 184, 3) := by decide +kernel
theorem dL_rows_191 : decode cL_rows 191 = .ok (.bipush 32, 2) := by decide +kernel
theorem dL_rows_193 : decode cL_rows 193 = .ok (.if_icmp .eq 7, 3) := by decide +kernel
theorem dL_rows_196 : decode cL_rows 196 = .ok (.iconst 1, 1) := by decide +kernel
theorem dL_rows_197 : decode cL_rows 197 = .ok (.goto 4, 3) := by decide +kernel
theorem dL_rows_200 : decode cL_rows 200 = .ok (.iconst 0, 1) := by decide +kernel
theorem dL_rows_201 : decode cL_rows 201 = .ok (.iadd, 1) := by decide +kernel
theorem dL_rows_202 : decode cL_rows 202 = .ok (.istore 6, 2) := by decide +kernel
theorem dL_rows_204 : decode cL_rows 204 = .ok (.iinc 7 1, 3) := by decide +kernel
theorem dL_rows_207 : decode cL_rows 207 = .ok (.goto (-35), 3) := by decide +kernel
theorem dL_rows_210 : decode cL_rows 210 = .ok (.iload 4, 2) := by decide +kernel
theorem dL_rows_212 : decode cL_rows 212 = .ok (.iconst 1, 1) := by decide +kernel
theorem dL_rows_213 : decode cL_rows 213 = .ok (.if_icmp .lt 10, 3) := by decide +kernel
theorem dL_rows_216 : decode cL_rows 216 = .ok (.iload 5, 2) := by decide +kernel
theorem dL_rows_218 : decode cL_rows 218 = .ok (.iload 6, 2) := by decide +kernel
theorem dL_rows_220 : decode cL_rows 220 = .ok (.if_icmp .eq 5, 3) := by decide +kernel
theorem dL_rows_223 : decode cL_rows 223 = .ok (.iconst 0, 1) := by decide +kernel
theorem dL_rows_224 : decode cL_rows 224 = .ok (.ireturn, 1) := by decide +kernel
theorem dL_rows_225 : decode cL_rows 225 = .ok (.iinc 3 1, 3) := by decide +kernel
theorem dL_rows_228 : decode cL_rows 228 = .ok (.goto (-220), 3) := by decide +kernel
theorem dL_rows_231 : decode cL_rows 231 = .ok (.aload_n 0, 1) := by decide +kernel
theorem dL_rows_232 : decode cL_rows 232 = .ok (.iload_n 2, 1) := by decide +kernel
theorem dL_rows_233 : decode cL_rows 233 = .ok (.invokevirtual 170, 3) := by decide +kernel
theorem dL_rows_236 : decode cL_rows 236 = .ok (.iload_n 1, 1) := by decide +kernel
theorem dL_rows_237 : decode cL_rows 237 = .ok (.if_icmp .ne 7, 3) := by decide +kernel
theorem dL_rows_240 : decode cL_rows 240 = .ok (.iconst 1, 1) := by decide +kernel
theorem dL_rows_241 : decode cL_rows 241 = .ok (.goto 4, 3) := by decide +kernel
theorem dL_rows_244 : decode cL_rows 244 = .ok (.iconst 0, 1) := by decide +kernel
theorem dL_rows_245 : decode cL_rows 245 = .ok (.ireturn, 1) := by decide +kernel
theorem dL_changes_0 : decode cL_changes 0 = .ok (.iload_n 1, 1) := by decide +kernel
theorem dL_changes_1 : decode cL_changes 1 = .ok (.aload_n 0, 1) := by decide +kernel
theorem dL_changes_2 : decode cL_changes 2 = .ok (.invokevirtual 96, 3) := by decide +kernel
theorem dL_changes_5 : decode cL_changes 5 = .ok (.invokestatic 38, 3) := by decide +kernel
theorem dL_changes_8 : decode cL_changes 8 = .ok (.istore_n 2, 1) := by decide +kernel
theorem dL_changes_9 : decode cL_changes 9 = .ok (.iload_n 1, 1) := by decide +kernel
theorem dL_changes_10 : decode cL_changes 10 = .ok (.iconst 4, 1) := by decide +kernel
theorem dL_changes_11 : decode cL_changes 11 = .ok (.ishr, 1) := by decide +kernel
theorem dL_changes_12 : decode cL_changes 12 = .ok (.aload_n 0, 1) := by decide +kernel
theorem dL_changes_13 : decode cL_changes 13 = .ok (.iload_n 2, 1) := by decide +kernel
theorem dL_changes_14 : decode cL_changes 14 = .ok (.invokevirtual 103, 3) := by decide +kernel
theorem dL_changes_17 : decode cL_changes 17 = .ok (.iconst 1, 1) := by decide +kernel
theorem dL_changes_18 : decode cL_changes 18 = .ok (.iadd, 1) := by decide +kernel
theorem dL_changes_19 : decode cL_changes 19 = .ok (.invokestatic 38, 3) := by decide +kernel
theorem dL_changes_22 : decode cL_changes 22 = .ok (.istore_n 3, 1) := by decide +kernel
theorem dL_changes_23 : decode cL_changes 23 = .ok (.aload_n 0, 1) := by decide +kernel
theorem dL_changes_24 : decode cL_changes 24 = .ok (.invokevirtual 90, 3) := by decide +kernel
theorem dL_changes_27 : decode cL_changes 27 = .ok (.istore 4, 2) := by decide +kernel
theorem dL_changes_29 : decode cL_changes 29 = .ok (.aload_n 0, 1) := by decide +kernel
theorem dL_changes_30 : decode cL_changes 30 = .ok (.invokevirtual 86, 3) := by decide +kernel
theorem dL_changes_33 : decode cL_changes 33 = .ok (.lstore 5, 2) := by decide +kernel
theorem dL_changes_35 : decode cL_changes 35 = .ok (.aload_n 0, 1) := by decide +kernel
theorem dL_changes_36 : decode cL_changes 36 = .ok (.iload_n 1, 1) := by decide +kernel
theorem dL_changes_37 : decode cL_changes 37 = .ok (.invokestatic 117, 3) := by decide +kernel
theorem dL_changes_40 : decode cL_changes 40 = .ok (.istore 7, 2) := by decide +kernel
theorem dL_changes_42 : decode cL_changes 42 = .ok (.aload_n 0, 1) := by decide +kernel
theorem dL_changes_43 : decode cL_changes 43 = .ok (.iload_n 2, 1) := by decide +kernel
theorem dL_changes_44 : decode cL_changes 44 = .ok (.iload_n 3, 1) := by decide +kernel
theorem dL_changes_45 : decode cL_changes 45 = .ok (.invokestatic 99, 3) := by decide +kernel
theorem dL_changes_48 : decode cL_changes 48 = .ok (.istore 8, 2) := by decide +kernel
theorem dL_changes_50 : decode cL_changes 50 = .ok (.iload 4, 2) := by decide +kernel
theorem dL_changes_52 : decode cL_changes 52 = .ok (.bipush 40, 2) := by decide +kernel
theorem dL_changes_54 : decode cL_changes 54 = .ok (.if_icmp .ne 26, 3) := by decide +kernel
theorem dL_changes_57 : decode cL_changes 57 = .ok (.iload 8, 2) := by decide +kernel
theorem dL_changes_59 : decode cL_changes 59 = .ok (.sipush (-998), 3) := by decide +kernel
theorem dL_changes_62 : decode cL_changes 62 = .ok (.if_icmp .ne 16, 3) := by decide +kernel
theorem dL_changes_65 : decode cL_changes 65 = .ok (.aload_n 0, 1) := by decide +kernel
theorem dL_changes_66 : decode cL_changes 66 = .ok (.invokevirtual 187, 3) := by decide +kernel
theorem dL_changes_69 : decode cL_changes 69 = .ok (.iload 7, 2) := by decide +kernel
theorem dL_changes_71 : decode cL_changes 71 = .ok (.if_icmp .ne 7, 3) := by decide +kernel
theorem dL_changes_74 : decode cL_changes 74 = .ok (.iconst 1, 1) := by decide +kernel
theorem dL_changes_75 : decode cL_changes 75 = .ok (.goto 4, 3) := by decide +kernel
theorem dL_changes_78 : decode cL_changes 78 = .ok (.iconst 0, 1) := by decide +kernel
theorem dL_changes_79 : decode cL_changes 79 = .ok (.ireturn, 1) := by decide +kernel
theorem dL_changes_80 : decode cL_changes 80 = .ok (.iload 8, 2) := by decide +kernel
theorem dL_changes_82 : decode cL_changes 82 = .ok (.ifCond .lt 70, 3) := by decide +kernel
theorem dL_changes_85 : decode cL_changes 85 = .ok (.iload 8, 2) := by decide +kernel
theorem dL_changes_87 : decode cL_changes 87 = .ok (.iload 4, 2) := by decide +kernel
theorem dL_changes_89 : decode cL_changes 89 = .ok (.if_icmp .gt 63, 3) := by decide +kernel
theorem dL_changes_92 : decode cL_changes 92 = .ok (.aload_n 0, 1) := by decide +kernel
theorem dL_changes_93 : decode cL_changes 93 = .ok (.invokevirtual 90, 3) := by decide +kernel
theorem dL_changes_96 : decode cL_changes 96 = .ok (.iload 4, 2) := by decide +kernel
theorem dL_changes_98 : decode cL_changes 98 = .ok (.iconst 1, 1) := by decide +kernel
theorem dL_changes_99 : decode cL_changes 99 = .ok (.iadd, 1) := by decide +kernel
theorem dL_changes_100 : decode cL_changes 100 = .ok (.if_icmp .ne 52, 3) := by decide +kernel
theorem dL_changes_103 : decode cL_changes 103 = .ok (.aload_n 0, 1) := by decide +kernel
theorem dL_changes_104 : decode cL_changes 104 = .ok (.iload 8, 2) := by decide +kernel
theorem dL_changes_106 : decode cL_changes 106 = .ok (.invokevirtual 123, 3) := by decide +kernel
theorem dL_changes_109 : decode cL_changes 109 = .ok (.iload_n 3, 1) := by decide +kernel
theorem dL_changes_110 : decode cL_changes 110 = .ok (.if_icmp .ne 42, 3) := by decide +kernel
theorem dL_changes_113 : decode cL_changes 113 = .ok (.aload_n 0, 1) := by decide +kernel
theorem dL_changes_114 : decode cL_changes 114 = .ok (.iload 8, 2) := by decide +kernel
theorem dL_changes_116 : decode cL_changes 116 = .ok (.invokevirtual 63, 3) := by decide +kernel
theorem dL_changes_119 : decode cL_changes 119 = .ok (.iload_n 1, 1) := by decide +kernel
theorem dL_changes_120 : decode cL_changes 120 = .ok (.invokestatic 42, 3) := by decide +kernel
theorem dL_changes_123 : decode cL_changes 123 = .ok (.if_icmp .ne 29, 3) := by decide +kernel
theorem dL_changes_126 : decode cL_changes 126 = .ok (.aload_n 0, 1) := by decide +kernel
theorem dL_changes_127 : decode cL_changes 127 = .ok (.iload 8, 2) := by decide +kernel
theorem dL_changes_129 : decode cL_changes 129 = .ok (.invokevirtual 190, 3) := by decide +kernel
theorem dL_changes_132 : decode cL_changes 132 = .ok (.iload_n 1, 1) := by decide +kernel
theorem dL_changes_133 : decode cL_changes 133 = .ok (.invokestatic 49, 3) := by decide +kernel
theorem dL_changes_136 : decode cL_changes 136 = .ok (.if_icmp .ne 16, 3) := by decide +kernel
theorem dL_changes_139 : decode cL_changes 139 = .ok (.aload_n 0, 1) := by decide +kernel
theorem dL_changes_140 : decode cL_changes 140 = .ok (.iload 8, 2) := by decide +kernel
theorem dL_changes_142 : decode cL_changes 142 = .ok (.invokevirtual 160, 3) := by decide +kernel
theorem dL_changes_145 : decode cL_changes 145 = .ok (.iload_n 1, 1) := by decide +kernel
theorem dL_changes_146 : decode cL_changes 146 = .ok (.invokestatic 60, 3) := by decide +kernel
theorem dL_changes_149 : decode cL_changes 149 = .ok (.if_icmp .eq 5, 3) := by decide +kernel
theorem dL_changes_152 : decode cL_changes 152 = .ok (.iconst 0, 1) := by decide +kernel
theorem dL_changes_153 : decode cL_changes 153 = .ok (.ireturn, 1) := by decide +kernel
theorem dL_changes_154 : decode cL_changes 154 = .ok (.aload_n 0, 1) := by decide +kernel
theorem dL_changes_155 : decode cL_changes 155 = .ok (.iload 8, 2) := by decide +kernel
theorem dL_changes_157 : decode cL_changes 157 = .ok (.aload_n 0, 1) := by decide +kernel
theorem dL_changes_158 : decode cL_changes 158 = .ok (.iload_n 2, 1) := by decide +kernel
theorem dL_changes_159 : decode cL_changes 159 = .ok (.invokevirtual 103, 3) := by decide +kernel
theorem dL_changes_162 : decode cL_changes 162 = .ok (.invokevirtual 193, 3) := by decide +kernel
theorem dL_changes_165 : decode cL_changes 165 = .ok (.istore 9, 2) := by decide +kernel
theorem dL_changes_167 : decode cL_changes 167 = .ok (.iload 9, 2) := by decide +kernel
theorem dL_changes_169 : decode cL_changes 169 = .ok (.iload 8, 2) := by decide +kernel
theorem dL_changes_171 : decode cL_changes 171 = .ok (.if_icmp .lt 42, 3) := by decide +kernel
theorem dL_changes_174 : decode cL_changes 174 = .ok (.aload_n 0, 1) := by decide +kernel
theorem dL_changes_175 : decode cL_changes 175 = .ok (.iload 9, 2) := by decide +kernel
theorem dL_changes_177 : decode cL_changes 177 = .ok (.invokevirtual 123, 3) := by decide +kernel
theorem dL_changes_180 : decode cL_changes 180 = .ok (.aload_n 0, 1) := by decide +kernel
theorem dL_changes_181 : decode cL_changes 181 = .ok (.iload_n 2, 1) := by decide +kernel
theorem dL_changes_182 : decode cL_changes 182 = .ok (.invokevirtual 103, 3) := by decide +kernel
theorem dL_changes_185 : decode cL_changes 185 = .ok (.if_icmp .ne 28, 3) := by decide +kernel
theorem dL_changes_188 : decode cL_changes 188 = .ok (.aload_n 0, 1) := by decide +kernel
theorem dL_changes_189 : decode cL_changes 189 = .ok (.iload 9, 2) := by decide +kernel
theorem dL_changes_191 : decode cL_changes 191 = .ok (.invokevirtual 196, 3) := by decide +kernel
theorem dL_changes_194 : decode cL_changes 194 = .ok (.iload 4, 2) := by decide +kernel
theorem dL_changes_196 : decode cL_changes 196 = .ok (.if_icmp .ne 17, 3) := by decide +kernel
theorem dL_changes_199 : decode cL_changes 199 = .ok (.aload_n 0, 1) := by decide +kernel
theorem dL_changes_200 : decode cL_changes 200 = .ok (.invokevirtual 86, 3) := by decide +kernel
theorem dL_changes_203 : decode cL_changes 203 = .ok (.lload 5, 2) := by decide +kernel
theorem dL_changes_205 : decode cL_changes 205 = .ok (.lcmp, 1) := by decide +kernel
theorem dL_changes_206 : decode cL_changes 206 = .ok (.ifCond .ne 7, 3) := by decide +kernel
theorem dL_changes_209 : decode cL_changes 209 = .ok (.iconst 1, 1) := by decide +kernel
theorem dL_changes_210 : decode cL_changes 210 = .ok (.goto 4, 3) := by decide +kernel
theorem dL_changes_213 : decode cL_changes 213 = .ok (.iconst 0, 1) := by decide +kernel
theorem dL_changes_214 : decode cL_changes 214 = .ok (.ireturn, 1) := by decide +kernel
theorem dL_law_0 : decode cL_law 0 = .ok (.new 16, 3) := by decide +kernel
theorem dL_law_3 : decode cL_law 3 = .ok (.dup, 1) := by decide +kernel
theorem dL_law_4 : decode cL_law 4 = .ok (.invokespecial 199, 3) := by decide +kernel
theorem dL_law_7 : decode cL_law 7 = .ok (.astore_n 1, 1) := by decide +kernel
theorem dL_law_8 : decode cL_law 8 = .ok (.aload_n 1, 1) := by decide +kernel
theorem dL_law_9 : decode cL_law 9 = .ok (.invokestatic 166, 3) := by decide +kernel
theorem dL_law_12 : decode cL_law 12 = .ok (.iconst (-1), 1) := by decide +kernel
theorem dL_law_13 : decode cL_law 13 = .ok (.if_icmp .ne 18, 3) := by decide +kernel
theorem dL_law_16 : decode cL_law 16 = .ok (.aload_n 1, 1) := by decide +kernel
theorem dL_law_17 : decode cL_law 17 = .ok (.invokevirtual 96, 3) := by decide +kernel
theorem dL_law_20 : decode cL_law 20 = .ok (.iconst 1, 1) := by decide +kernel
theorem dL_law_21 : decode cL_law 21 = .ok (.if_icmp .ne 10, 3) := by decide +kernel
theorem dL_law_24 : decode cL_law 24 = .ok (.aload_n 1, 1) := by decide +kernel
theorem dL_law_25 : decode cL_law 25 = .ok (.invokestatic 200, 3) := by decide +kernel
theorem dL_law_28 : decode cL_law 28 = .ok (.ifCond .ne 5, 3) := by decide +kernel
theorem dL_law_31 : decode cL_law 31 = .ok (.iconst 0, 1) := by decide +kernel
theorem dL_law_32 : decode cL_law 32 = .ok (.ireturn, 1) := by decide +kernel
theorem dL_law_33 : decode cL_law 33 = .ok (.aload_n 1, 1) := by decide +kernel
theorem dL_law_34 : decode cL_law 34 = .ok (.aload_n 0, 1) := by decide +kernel
theorem dL_law_35 : decode cL_law 35 = .ok (.iconst 0, 1) := by decide +kernel
theorem dL_law_36 : decode cL_law 36 = .ok (.invokestatic 204, 3) := by decide +kernel
theorem dL_law_39 : decode cL_law 39 = .ok (.istore_n 2, 1) := by decide +kernel
theorem dL_law_40 : decode cL_law 40 = .ok (.iload_n 2, 1) := by decide +kernel
theorem dL_law_41 : decode cL_law 41 = .ok (.ifCond .lt 40, 3) := by decide +kernel
theorem dL_law_44 : decode cL_law 44 = .ok (.aload_n 1, 1) := by decide +kernel
theorem dL_law_45 : decode cL_law 45 = .ok (.invokevirtual 208, 3) := by decide +kernel
theorem dL_law_48 : decode cL_law 48 = .ok (.iload_n 2, 1) := by decide +kernel
theorem dL_law_49 : decode cL_law 49 = .ok (.if_icmp .ne 32, 3) := by decide +kernel
theorem dL_law_52 : decode cL_law 52 = .ok (.aload_n 1, 1) := by decide +kernel
theorem dL_law_53 : decode cL_law 53 = .ok (.invokevirtual 90, 3) := by decide +kernel
theorem dL_law_56 : decode cL_law 56 = .ok (.iload_n 2, 1) := by decide +kernel
theorem dL_law_57 : decode cL_law 57 = .ok (.if_icmp .ne 24, 3) := by decide +kernel
theorem dL_law_60 : decode cL_law 60 = .ok (.aload_n 1, 1) := by decide +kernel
theorem dL_law_61 : decode cL_law 61 = .ok (.invokevirtual 187, 3) := by decide +kernel
theorem dL_law_64 : decode cL_law 64 = .ok (.ifCond .ne 17, 3) := by decide +kernel
theorem dL_law_67 : decode cL_law 67 = .ok (.aload_n 1, 1) := by decide +kernel
theorem dL_law_68 : decode cL_law 68 = .ok (.invokestatic 211, 3) := by decide +kernel
theorem dL_law_71 : decode cL_law 71 = .ok (.ifCond .eq 10, 3) := by decide +kernel
theorem dL_law_74 : decode cL_law 74 = .ok (.aload_n 1, 1) := by decide +kernel
theorem dL_law_75 : decode cL_law 75 = .ok (.invokestatic 200, 3) := by decide +kernel
theorem dL_law_78 : decode cL_law 78 = .ok (.ifCond .ne 5, 3) := by decide +kernel
theorem dL_law_81 : decode cL_law 81 = .ok (.iconst 0, 1) := by decide +kernel
theorem dL_law_82 : decode cL_law 82 = .ok (.ireturn, 1) := by decide +kernel
theorem dL_law_83 : decode cL_law 83 = .ok (.aload_n 0, 1) := by decide +kernel
theorem dL_law_84 : decode cL_law 84 = .ok (.bipush 14, 2) := by decide +kernel
theorem dL_law_86 : decode cL_law 86 = .ok (.invokestatic 113, 3) := by decide +kernel
theorem dL_law_89 : decode cL_law 89 = .ok (.istore_n 3, 1) := by decide +kernel
theorem dL_law_90 : decode cL_law 90 = .ok (.aload_n 1, 1) := by decide +kernel
theorem dL_law_91 : decode cL_law 91 = .ok (.iload_n 3, 1) := by decide +kernel
theorem dL_law_92 : decode cL_law 92 = .ok (.iconst 1, 1) := by decide +kernel
theorem dL_law_93 : decode cL_law 93 = .ok (.iand, 1) := by decide +kernel
theorem dL_law_94 : decode cL_law 94 = .ok (.ifCond .ne 7, 3) := by decide +kernel
theorem dL_law_97 : decode cL_law 97 = .ok (.iconst 1, 1) := by decide +kernel
theorem dL_law_98 : decode cL_law 98 = .ok (.goto 4, 3) := by decide +kernel
theorem dL_law_101 : decode cL_law 101 = .ok (.iconst 0, 1) := by decide +kernel
theorem dL_law_102 : decode cL_law 102 = .ok (.invokevirtual 213, 3) := by decide +kernel
theorem dL_law_105 : decode cL_law 105 = .ok (.istore 4, 2) := by decide +kernel
theorem dL_law_107 : decode cL_law 107 = .ok (.iload 4, 2) := by decide +kernel
theorem dL_law_109 : decode cL_law 109 = .ok (.ifCond .eq 52, 3) := by decide +kernel
theorem dL_law_112 : decode cL_law 112 = .ok (.aload_n 1, 1) := by decide +kernel
theorem dL_law_113 : decode cL_law 113 = .ok (.iload_n 3, 1) := by decide +kernel
theorem dL_law_114 : decode cL_law 114 = .ok (.iconst 2, 1) := by decide +kernel
theorem dL_law_115 : decode cL_law 115 = .ok (.iand, 1) := by decide +kernel
theorem dL_law_116 : decode cL_law 116 = .ok (.ifCond .ne 7, 3) := by decide +kernel
theorem dL_law_119 : decode cL_law 119 = .ok (.iconst 1, 1) := by decide +kernel
theorem dL_law_120 : decode cL_law 120 = .ok (.goto 4, 3) := by decide +kernel
theorem dL_law_123 : decode cL_law 123 = .ok (.iconst 0, 1) := by decide +kernel
theorem dL_law_124 : decode cL_law 124 = .ok (.invokevirtual 217, 3) := by decide +kernel
theorem dL_law_127 : decode cL_law 127 = .ok (.ifCond .ne 34, 3) := by decide +kernel
theorem dL_law_130 : decode cL_law 130 = .ok (.aload_n 1, 1) := by decide +kernel
theorem dL_law_131 : decode cL_law 131 = .ok (.bipush 10, 2) := by decide +kernel
theorem dL_law_133 : decode cL_law 133 = .ok (.iload_n 3, 1) := by decide +kernel
theorem dL_law_134 : decode cL_law 134 = .ok (.iconst 2, 1) := by decide +kernel
theorem dL_law_135 : decode cL_law 135 = .ok (.ishr, 1) := by decide +kernel
theorem dL_law_136 : decode cL_law 136 = .ok (.bipush 60, 2) := by decide +kernel
theorem dL_law_138 : decode cL_law 138 = .ok (.invokestatic 38, 3) := by decide +kernel
theorem dL_law_141 : decode cL_law 141 = .ok (.iadd, 1) := by decide +kernel
theorem dL_law_142 : decode cL_law 142 = .ok (.invokestatic 220, 3) := by decide +kernel
theorem dL_law_145 : decode cL_law 145 = .ok (.ifCond .eq 16, 3) := by decide +kernel
theorem dL_law_148 : decode cL_law 148 = .ok (.aload_n 1, 1) := by decide +kernel
theorem dL_law_149 : decode cL_law 149 = .ok (.aload_n 0, 1) := by decide +kernel
theorem dL_law_150 : decode cL_law 150 = .ok (.bipush 15, 2) := by decide +kernel
theorem dL_law_152 : decode cL_law 152 = .ok (.invokestatic 113, 3) := by decide +kernel
theorem dL_law_155 : decode cL_law 155 = .ok (.invokestatic 224, 3) := by decide +kernel
theorem dL_law_158 : decode cL_law 158 = .ok (.ifCond .ne 5, 3) := by decide +kernel
theorem dL_law_161 : decode cL_law 161 = .ok (.iconst 0, 1) := by decide +kernel
theorem dL_law_162 : decode cL_law 162 = .ok (.ireturn, 1) := by decide +kernel
theorem dL_law_163 : decode cL_law 163 = .ok (.iload_n 2, 1) := by decide +kernel
theorem dL_law_164 : decode cL_law 164 = .ok (.ifCond .le 24, 3) := by decide +kernel
theorem dL_law_167 : decode cL_law 167 = .ok (.aload_n 1, 1) := by decide +kernel
theorem dL_law_168 : decode cL_law 168 = .ok (.iload_n 3, 1) := by decide +kernel
theorem dL_law_169 : decode cL_law 169 = .ok (.bipush 8, 2) := by decide +kernel
theorem dL_law_171 : decode cL_law 171 = .ok (.ishr, 1) := by decide +kernel
theorem dL_law_172 : decode cL_law 172 = .ok (.bipush 23, 2) := by decide +kernel
theorem dL_law_174 : decode cL_law 174 = .ok (.invokestatic 38, 3) := by decide +kernel
theorem dL_law_177 : decode cL_law 177 = .ok (.bipush 11, 2) := by decide +kernel
theorem dL_law_179 : decode cL_law 179 = .ok (.isub, 1) := by decide +kernel
theorem dL_law_180 : decode cL_law 180 = .ok (.invokestatic 227, 3) := by decide +kernel
theorem dL_law_183 : decode cL_law 183 = .ok (.ifCond .ne 5, 3) := by decide +kernel
theorem dL_law_186 : decode cL_law 186 = .ok (.iconst 0, 1) := by decide +kernel
theorem dL_law_187 : decode cL_law 187 = .ok (.ireturn, 1) := by decide +kernel
theorem dL_law_188 : decode cL_law 188 = .ok (.iload_n 3, 1) := by decide +kernel
theorem dL_law_189 : decode cL_law 189 = .ok (.bipush 13, 2) := by decide +kernel
theorem dL_law_191 : decode cL_law 191 = .ok (.ishr, 1) := by decide +kernel
theorem dL_law_192 : decode cL_law 192 = .ok (.bipush 13, 2) := by decide +kernel
theorem dL_law_194 : decode cL_law 194 = .ok (.invokestatic 38, 3) := by decide +kernel
theorem dL_law_197 : decode cL_law 197 = .ok (.bipush 6, 2) := by decide +kernel
theorem dL_law_199 : decode cL_law 199 = .ok (.isub, 1) := by decide +kernel
theorem dL_law_200 : decode cL_law 200 = .ok (.istore 5, 2) := by decide +kernel
theorem dL_law_202 : decode cL_law 202 = .ok (.iload_n 3, 1) := by decide +kernel
theorem dL_law_203 : decode cL_law 203 = .ok (.iconst 4, 1) := by decide +kernel
theorem dL_law_204 : decode cL_law 204 = .ok (.iand, 1) := by decide +kernel
theorem dL_law_205 : decode cL_law 205 = .ok (.ifCond .ne 7, 3) := by decide +kernel
theorem dL_law_208 : decode cL_law 208 = .ok (.iconst 1, 1) := by decide +kernel
theorem dL_law_209 : decode cL_law 209 = .ok (.goto 4, 3) := by decide +kernel
theorem dL_law_212 : decode cL_law 212 = .ok (.iconst 0, 1) := by decide +kernel
theorem dL_law_213 : decode cL_law 213 = .ok (.istore 6, 2) := by decide +kernel
theorem dL_law_215 : decode cL_law 215 = .ok (.aload_n 1, 1) := by decide +kernel
theorem dL_law_216 : decode cL_law 216 = .ok (.iload 6, 2) := by decide +kernel
theorem dL_law_218 : decode cL_law 218 = .ok (.ifCond .eq 10, 3) := by decide +kernel
theorem dL_law_221 : decode cL_law 221 = .ok (.iload 5, 2) := by decide +kernel
theorem dL_law_223 : decode cL_law 223 = .ok (.iconst 3, 1) := by decide +kernel
theorem dL_law_224 : decode cL_law 224 = .ok (.iadd, 1) := by decide +kernel
theorem dL_law_225 : decode cL_law 225 = .ok (.goto 5, 3) := by decide +kernel
theorem dL_law_228 : decode cL_law 228 = .ok (.iload 5, 2) := by decide +kernel
theorem dL_law_230 : decode cL_law 230 = .ok (.iload 6, 2) := by decide +kernel
theorem dL_law_232 : decode cL_law 232 = .ok (.invokestatic 109, 3) := by decide +kernel
theorem dL_law_235 : decode cL_law 235 = .ok (.bipush (-6), 2) := by decide +kernel
theorem dL_law_237 : decode cL_law 237 = .ok (.if_icmp .lt 44, 3) := by decide +kernel
theorem dL_law_240 : decode cL_law 240 = .ok (.aload_n 1, 1) := by decide +kernel
theorem dL_law_241 : decode cL_law 241 = .ok (.invokevirtual 153, 3) := by decide +kernel
theorem dL_law_244 : decode cL_law 244 = .ok (.iload 5, 2) := by decide +kernel
theorem dL_law_246 : decode cL_law 246 = .ok (.if_icmp .ne 35, 3) := by decide +kernel
theorem dL_law_249 : decode cL_law 249 = .ok (.aload_n 1, 1) := by decide +kernel
theorem dL_law_250 : decode cL_law 250 = .ok (.invokevirtual 163, 3) := by decide +kernel
theorem dL_law_253 : decode cL_law 253 = .ok (.ifCond .lt 28, 3) := by decide +kernel
theorem dL_law_256 : decode cL_law 256 = .ok (.aload_n 1, 1) := by decide +kernel
theorem dL_law_257 : decode cL_law 257 = .ok (.invokevirtual 163, 3) := by decide +kernel
theorem dL_law_260 : decode cL_law 260 = .ok (.ifCond .ne 21, 3) := by decide +kernel
theorem dL_law_263 : decode cL_law 263 = .ok (.aload_n 1, 1) := by decide +kernel
theorem dL_law_264 : decode cL_law 264 = .ok (.invokestatic 211, 3) := by decide +kernel
theorem dL_law_267 : decode cL_law 267 = .ok (.ifCond .eq 14, 3) := by decide +kernel
theorem dL_law_270 : decode cL_law 270 = .ok (.aload_n 1, 1) := by decide +kernel
theorem dL_law_271 : decode cL_law 271 = .ok (.invokestatic 200, 3) := by decide +kernel
theorem dL_law_274 : decode cL_law 274 = .ok (.ifCond .eq 7, 3) := by decide +kernel
theorem dL_law_277 : decode cL_law 277 = .ok (.iconst 1, 1) := by decide +kernel
theorem dL_law_278 : decode cL_law 278 = .ok (.goto 4, 3) := by decide +kernel
theorem dL_law_281 : decode cL_law 281 = .ok (.iconst 0, 1) := by decide +kernel
theorem dL_law_282 : decode cL_law 282 = .ok (.ireturn, 1) := by decide +kernel
