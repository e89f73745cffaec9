theorem dX10_moveChord_77 : decode cX10_moveChord 77 = .ok (.iconst 3, 1) := by decide +kernel
theorem dX10_moveChord_78 : decode cX10_moveChord 78 = .ok (.iadd, 1) := by decide +kernel
theorem dX10_moveChord_79 : decode cX10_moveChord 79 = .ok (.iaload, 1) := by decide +kernel
theorem dX10_moveChord_80 : decode cX10_moveChord 80 = .ok (.istore 5, 2) := by decide +kernel
theorem dX10_moveChord_82 : decode cX10_moveChord 82 = .ok (.aload_n 0, 1) := by decide +kernel
theorem dX10_moveChord_83 : decode cX10_moveChord 83 = .ok (.getfield 7, 3) := by decide +kernel
theorem dX10_moveChord_86 : decode cX10_moveChord 86 = .ok (.iload_n 1, 1) := by decide +kernel
theorem dX10_moveChord_87 : decode cX10_moveChord 87 = .ok (.invokestatic 94, 3) := by decide +kernel
theorem dX10_moveChord_90 : decode cX10_moveChord 90 = .ok (.iconst 4, 1) := by decide +kernel
theorem dX10_moveChord_91 : decode cX10_moveChord 91 = .ok (.iadd, 1) := by decide +kernel
theorem dX10_moveChord_92 : decode cX10_moveChord 92 = .ok (.iaload, 1) := by decide +kernel
theorem dX10_moveChord_93 : decode cX10_moveChord 93 = .ok (.istore 6, 2) := by decide +kernel
theorem dX10_moveChord_95 : decode cX10_moveChord 95 = .ok (.aload_n 0, 1) := by decide +kernel
theorem dX10_moveChord_96 : decode cX10_moveChord 96 = .ok (.iload_n 1, 1) := by decide +kernel
theorem dX10_moveChord_97 : decode cX10_moveChord 97 = .ok (.invokevirtual 158, 3) := by decide +kernel
theorem dX10_moveChord_100 : decode cX10_moveChord 100 = .ok (.aload_n 0, 1) := by decide +kernel
theorem dX10_moveChord_101 : decode cX10_moveChord 101 = .ok (.iload_n 3, 1) := by decide +kernel
theorem dX10_moveChord_102 : decode cX10_moveChord 102 = .ok (.iload_n 2, 1) := by decide +kernel
theorem dX10_moveChord_103 : decode cX10_moveChord 103 = .ok (.invokevirtual 152, 3) := by decide +kernel
theorem dX10_moveChord_106 : decode cX10_moveChord 106 = .ok (.istore 7, 2) := by decide +kernel
theorem dX10_moveChord_108 : decode cX10_moveChord 108 = .ok (.aload_n 0, 1) := by decide +kernel
theorem dX10_moveChord_109 : decode cX10_moveChord 109 = .ok (.iload 7, 2) := by decide +kernel
theorem dX10_moveChord_111 : decode cX10_moveChord 111 = .ok (.invokevirtual 155, 3) := by decide +kernel
theorem dX10_moveChord_114 : decode cX10_moveChord 114 = .ok (.aload_n 0, 1) := by decide +kernel
theorem dX10_moveChord_115 : decode cX10_moveChord 115 = .ok (.getfield 7, 3) := by decide +kernel
theorem dX10_moveChord_118 : decode cX10_moveChord 118 = .ok (.iload 7, 2) := by decide +kernel
theorem dX10_moveChord_120 : decode cX10_moveChord 120 = .ok (.invokestatic 94, 3) := by decide +kernel
theorem dX10_moveChord_123 : decode cX10_moveChord 123 = .ok (.iconst 0, 1) := by decide +kernel
theorem dX10_moveChord_124 : decode cX10_moveChord 124 = .ok (.iadd, 1) := by decide +kernel
theorem dX10_moveChord_125 : decode cX10_moveChord 125 = .ok (.iload_n 3, 1) := by decide +kernel
theorem dX10_moveChord_126 : decode cX10_moveChord 126 = .ok (.iastore, 1) := by decide +kernel
theorem dX10_moveChord_127 : decode cX10_moveChord 127 = .ok (.aload_n 0, 1) := by decide +kernel
theorem dX10_moveChord_128 : decode cX10_moveChord 128 = .ok (.getfield 7, 3) := by decide +kernel
theorem dX10_moveChord_131 : decode cX10_moveChord 131 = .ok (.iload 7, 2) := by decide +kernel
theorem dX10_moveChord_133 : decode cX10_moveChord 133 = .ok (.invokestatic 94, 3) := by decide +kernel
theorem dX10_moveChord_136 : decode cX10_moveChord 136 = .ok (.iconst 1, 1) := by decide +kernel
theorem dX10_moveChord_137 : decode cX10_moveChord 137 = .ok (.iadd, 1) := by decide +kernel
theorem dX10_moveChord_138 : decode cX10_moveChord 138 = .ok (.iload_n 2, 1) := by decide +kernel
theorem dX10_moveChord_139 : decode cX10_moveChord 139 = .ok (.iastore, 1) := by decide +kernel
theorem dX10_moveChord_140 : decode cX10_moveChord 140 = .ok (.aload_n 0, 1) := by decide +kernel
theorem dX10_moveChord_141 : decode cX10_moveChord 141 = .ok (.getfield 7, 3) := by decide +kernel
theorem dX10_moveChord_144 : decode cX10_moveChord 144 = .ok (.iload 7, 2) := by decide +kernel
theorem dX10_moveChord_146 : decode cX10_moveChord 146 = .ok (.invokestatic 94, 3) := by decide +kernel
theorem dX10_moveChord_149 : decode cX10_moveChord 149 = .ok (.iconst 2, 1) := by decide +kernel
theorem dX10_moveChord_150 : decode cX10_moveChord 150 = .ok (.iadd, 1) := by decide +kernel
theorem dX10_moveChord_151 : decode cX10_moveChord 151 = .ok (.iload 4, 2) := by decide +kernel
theorem dX10_moveChord_153 : decode cX10_moveChord 153 = .ok (.iastore, 1) := by decide +kernel
theorem dX10_moveChord_154 : decode cX10_moveChord 154 = .ok (.aload_n 0, 1) := by decide +kernel
theorem dX10_moveChord_155 : decode cX10_moveChord 155 = .ok (.getfield 7, 3) := by decide +kernel
theorem dX10_moveChord_158 : decode cX10_moveChord 158 = .ok (.iload 7, 2) := by decide +kernel
theorem dX10_moveChord_160 : decode cX10_moveChord 160 = .ok (.invokestatic 94, 3) := by decide +kernel
theorem dX10_moveChord_163 : decode cX10_moveChord 163 = .ok (.iconst 3, 1) := by decide +kernel
theorem dX10_moveChord_164 : decode cX10_moveChord 164 = .ok (.iadd, 1) := by decide +kernel
theorem dX10_moveChord_165 : decode cX10_moveChord 165 = .ok (.iload 5, 2) := by decide +kernel
theorem dX10_moveChord_167 : decode cX10_moveChord 167 = .ok (.iastore, 1) := by decide +kernel
theorem dX10_moveChord_168 : decode cX10_moveChord 168 = .ok (.aload_n 0, 1) := by decide +kernel
theorem dX10_moveChord_169 : decode cX10_moveChord 169 = .ok (.getfield 7, 3) := by decide +kernel
theorem dX10_moveChord_172 : decode cX10_moveChord 172 = .ok (.iload 7, 2) := by decide +kernel
theorem dX10_moveChord_174 : decode cX10_moveChord 174 = .ok (.invokestatic 94, 3) := by decide +kernel
theorem dX10_moveChord_177 : decode cX10_moveChord 177 = .ok (.iconst 4, 1) := by decide +kernel
theorem dX10_moveChord_178 : decode cX10_moveChord 178 = .ok (.iadd, 1) := by decide +kernel
theorem dX10_moveChord_179 : decode cX10_moveChord 179 = .ok (.iload 6, 2) := by decide +kernel
theorem dX10_moveChord_181 : decode cX10_moveChord 181 = .ok (.iastore, 1) := by decide +kernel
theorem dX10_moveChord_182 : decode cX10_moveChord 182 = .ok (.iload 7, 2) := by decide +kernel
theorem dX10_moveChord_184 : decode cX10_moveChord 184 = .ok (.ireturn, 1) := by decide +kernel
theorem dX10_tonesOf_0 : decode cX10_tonesOf 0 = .ok (.iload_n 0, 1) := by decide +kernel
theorem dX10_tonesOf_1 : decode cX10_tonesOf 1 = .ok (.tableswitch 86 0 8 #[51, 55, 59, 63, 67, 71, 74, 78, 82], 51) := by decide +kernel
theorem dX10_tonesOf_52 : decode cX10_tonesOf 52 = .ok (.sipush 145, 3) := by decide +kernel
theorem dX10_tonesOf_55 : decode cX10_tonesOf 55 = .ok (.ireturn, 1) := by decide +kernel
theorem dX10_tonesOf_56 : decode cX10_tonesOf 56 = .ok (.sipush 137, 3) := by decide +kernel
theorem dX10_tonesOf_59 : decode cX10_tonesOf 59 = .ok (.ireturn, 1) := by decide +kernel
theorem dX10_tonesOf_60 : decode cX10_tonesOf 60 = .ok (.sipush 1169, 3) := by decide +kernel
theorem dX10_tonesOf_63 : decode cX10_tonesOf 63 = .ok (.ireturn, 1) := by decide +kernel
theorem dX10_tonesOf_64 : decode cX10_tonesOf 64 = .ok (.sipush 1161, 3) := by decide +kernel
theorem dX10_tonesOf_67 : decode cX10_tonesOf 67 = .ok (.ireturn, 1) := by decide +kernel
theorem dX10_tonesOf_68 : decode cX10_tonesOf 68 = .ok (.sipush 2193, 3) := by decide +kernel
theorem dX10_tonesOf_71 : decode cX10_tonesOf 71 = .ok (.ireturn, 1) := by decide +kernel
theorem dX10_tonesOf_72 : decode cX10_tonesOf 72 = .ok (.bipush 73, 2) := by decide +kernel
theorem dX10_tonesOf_74 : decode cX10_tonesOf 74 = .ok (.ireturn, 1) := by decide +kernel
theorem dX10_tonesOf_75 : decode cX10_tonesOf 75 = .ok (.sipush 273, 3) := by decide +kernel
theorem dX10_tonesOf_78 : decode cX10_tonesOf 78 = .ok (.ireturn, 1) := by decide +kernel
theorem dX10_tonesOf_79 : decode cX10_tonesOf 79 = .ok (.sipush 161, 3) := by decide +kernel
theorem dX10_tonesOf_82 : decode cX10_tonesOf 82 = .ok (.ireturn, 1) := by decide +kernel
theorem dX10_tonesOf_83 : decode cX10_tonesOf 83 = .ok (.sipush 657, 3) := by decide +kernel
theorem dX10_tonesOf_86 : decode cX10_tonesOf 86 = .ok (.ireturn, 1) := by decide +kernel
theorem dX10_tonesOf_87 : decode cX10_tonesOf 87 = .ok (.sipush 1173, 3) := by decide +kernel
theorem dX10_tonesOf_90 : decode cX10_tonesOf 90 = .ok (.ireturn, 1) := by decide +kernel
theorem dX10_hasTone_0 : decode cX10_hasTone 0 = .ok (.iload_n 1, 1) := by decide +kernel
theorem dX10_hasTone_1 : decode cX10_hasTone 1 = .ok (.invokestatic 94, 3) := by decide +kernel
theorem dX10_hasTone_4 : decode cX10_hasTone 4 = .ok (.istore_n 3, 1) := by decide +kernel
theorem dX10_hasTone_5 : decode cX10_hasTone 5 = .ok (.aload_n 0, 1) := by decide +kernel
theorem dX10_hasTone_6 : decode cX10_hasTone 6 = .ok (.getfield 7, 3) := by decide +kernel
theorem dX10_hasTone_9 : decode cX10_hasTone 9 = .ok (.iload_n 3, 1) := by decide +kernel
theorem dX10_hasTone_10 : decode cX10_hasTone 10 = .ok (.iconst 4, 1) := by decide +kernel
theorem dX10_hasTone_11 : decode cX10_hasTone 11 = .ok (.iadd, 1) := by decide +kernel
theorem dX10_hasTone_12 : decode cX10_hasTone 12 = .ok (.iaload, 1) := by decide +kernel
theorem dX10_hasTone_13 : decode cX10_hasTone 13 = .ok (.bipush 100, 2) := by decide +kernel
theorem dX10_hasTone_15 : decode cX10_hasTone 15 = .ok (.if_icmp .eq 22, 3) := by decide +kernel
theorem dX10_hasTone_18 : decode cX10_hasTone 18 = .ok (.aload_n 0, 1) := by decide +kernel
theorem dX10_hasTone_19 : decode cX10_hasTone 19 = .ok (.getfield 7, 3) := by decide +kernel
theorem dX10_hasTone_22 : decode cX10_hasTone 22 = .ok (.iload_n 3, 1) := by decide +kernel
theorem dX10_hasTone_23 : decode cX10_hasTone 23 = .ok (.iconst 4, 1) := by decide +kernel
theorem dX10_hasTone_24 : decode cX10_hasTone 24 = .ok (.iadd, 1) := by decide +kernel
theorem dX10_hasTone_25 : decode cX10_hasTone 25 = .ok (.iaload, 1) := by decide +kernel
theorem dX10_hasTone_26 : decode cX10_hasTone 26 = .ok (.invokestatic 161, 3) := by decide +kernel
theorem dX10_hasTone_29 : decode cX10_hasTone 29 = .ok (.iload_n 2, 1) := by decide +kernel
theorem dX10_hasTone_30 : decode cX10_hasTone 30 = .ok (.if_icmp .ne 7, 3) := by decide +kernel
theorem dX10_hasTone_33 : decode cX10_hasTone 33 = .ok (.iconst 1, 1) := by decide +kernel
theorem dX10_hasTone_34 : decode cX10_hasTone 34 = .ok (.goto 4, 3) := by decide +kernel
theorem dX10_hasTone_37 : decode cX10_hasTone 37 = .ok (.iconst 0, 1) := by decide +kernel
theorem dX10_hasTone_38 : decode cX10_hasTone 38 = .ok (.istore 4, 2) := by decide +kernel
theorem dX10_hasTone_40 : decode cX10_hasTone 40 = .ok (.iload 4, 2) := by decide +kernel
theorem dX10_hasTone_42 : decode cX10_hasTone 42 = .ok (.ifCond .ne 37, 3) := by decide +kernel
theorem dX10_hasTone_45 : decode cX10_hasTone 45 = .ok (.aload_n 0, 1) := by decide +kernel
theorem dX10_hasTone_46 : decode cX10_hasTone 46 = .ok (.getfield 7, 3) := by decide +kernel
theorem dX10_hasTone_49 : decode cX10_hasTone 49 = .ok (.iload_n 3, 1) := by decide +kernel
theorem dX10_hasTone_50 : decode cX10_hasTone 50 = .ok (.iconst 3, 1) := by decide +kernel
theorem dX10_hasTone_51 : decode cX10_hasTone 51 = .ok (.iadd, 1) := by decide +kernel
theorem dX10_hasTone_52 : decode cX10_hasTone 52 = .ok (.iaload, 1) := by decide +kernel
theorem dX10_hasTone_53 : decode cX10_hasTone 53 = .ok (.invokestatic 164, 3) := by decide +kernel
theorem dX10_hasTone_56 : decode cX10_hasTone 56 = .ok (.iload_n 2, 1) := by decide +kernel
theorem dX10_hasTone_57 : decode cX10_hasTone 57 = .ok (.aload_n 0, 1) := by decide +kernel
theorem dX10_hasTone_58 : decode cX10_hasTone 58 = .ok (.getfield 7, 3) := by decide +kernel
theorem dX10_hasTone_61 : decode cX10_hasTone 61 = .ok (.iload_n 3, 1) := by decide +kernel
theorem dX10_hasTone_62 : decode cX10_hasTone 62 = .ok (.iconst 2, 1) := by decide +kernel
theorem dX10_hasTone_63 : decode cX10_hasTone 63 = .ok (.iadd, 1) := by decide +kernel
theorem dX10_hasTone_64 : decode cX10_hasTone 64 = .ok (.iaload, 1) := by decide +kernel
theorem dX10_hasTone_65 : decode cX10_hasTone 65 = .ok (.invokestatic 161, 3) := by decide +kernel
theorem dX10_hasTone_68 : decode cX10_hasTone 68 = .ok (.isub, 1) := by decide +kernel
theorem dX10_hasTone_69 : decode cX10_hasTone 69 = .ok (.invokestatic 52, 3) := by decide +kernel
theorem dX10_hasTone_72 : decode cX10_hasTone 72 = .ok (.ishr, 1) := by decide +kernel
theorem dX10_hasTone_73 : decode cX10_hasTone 73 = .ok (.iconst 1, 1) := by decide +kernel
theorem dX10_hasTone_74 : decode cX10_hasTone 74 = .ok (.iand, 1) := by decide +kernel
theorem dX10_hasTone_75 : decode cX10_hasTone 75 = .ok (.iconst 1, 1) := by decide +kernel
theorem dX10_hasTone_76 : decode cX10_hasTone 76 = .ok (.if_icmp .ne 7, 3) := by decide +kernel
theorem dX10_hasTone_79 : decode cX10_hasTone 79 = .ok (.iconst 1, 1) := by decide +kernel
theorem dX10_hasTone_80 : decode cX10_hasTone 80 = .ok (.goto 4, 3) := by decide +kernel
theorem dX10_hasTone_83 : decode cX10_hasTone 83 = .ok (.iconst 0, 1) := by decide +kernel
theorem dX10_hasTone_84 : decode cX10_hasTone 84 = .ok (.ireturn, 1) := by decide +kernel
theorem dX10_commonTones_0 : decode cX10_commonTones 0 = .ok (.aload_n 0, 1) := by decide +kernel
theorem dX10_commonTones_1 : decode cX10_commonTones 1 = .ok (.iconst 0, 1) := by decide +kernel
theorem dX10_commonTones_2 : decode cX10_commonTones 2 = .ok (.putfield 46, 3) := by decide +kernel
theorem dX10_commonTones_5 : decode cX10_commonTones 5 = .ok (.aload_n 0, 1) := by decide +kernel
theorem dX10_commonTones_6 : decode cX10_commonTones 6 = .ok (.iload_n 1, 1) := by decide +kernel
theorem dX10_commonTones_7 : decode cX10_commonTones 7 = .ok (.invokevirtual 127, 3) := by decide +kernel
theorem dX10_commonTones_10 : decode cX10_commonTones 10 = .ok (.ifCond .eq 13, 3) := by decide +kernel
theorem dX10_commonTones_13 : decode cX10_commonTones 13 = .ok (.aload_n 0, 1) := by decide +kernel
theorem dX10_commonTones_14 : decode cX10_commonTones 14 = .ok (.iload_n 1, 1) := by decide +kernel
theorem dX10_commonTones_15 : decode cX10_commonTones 15 = .ok (.iconst 1, 1) := by decide +kernel
theorem dX10_commonTones_16 : decode cX10_commonTones 16 = .ok (.iadd, 1) := by decide +kernel
theorem dX10_commonTones_17 : decode cX10_commonTones 17 = .ok (.invokevirtual 127, 3) := by decide +kernel
theorem dX10_commonTones_20 : decode cX10_commonTones 20 = .ok (.ifCond .ne 9, 3) := by decide +kernel
theorem dX10_commonTones_23 : decode cX10_commonTones 23 = .ok (.aload_n 0, 1) := by decide +kernel
theorem dX10_commonTones_24 : decode cX10_commonTones 24 = .ok (.iconst 1, 1) := by decide +kernel
theorem dX10_commonTones_25 : decode cX10_commonTones 25 = .ok (.invokevirtual 101, 3) := by decide +kernel
theorem dX10_commonTones_28 : decode cX10_commonTones 28 = .ok (.ireturn, 1) := by decide +kernel
theorem dX10_commonTones_29 : decode cX10_commonTones 29 = .ok (.iconst 0, 1) := by decide +kernel
theorem dX10_commonTones_30 : decode cX10_commonTones 30 = .ok (.istore_n 2, 1) := by decide +kernel
theorem dX10_commonTones_31 : decode cX10_commonTones 31 = .ok (.iconst 0, 1) := by decide +kernel
theorem dX10_commonTones_32 : decode cX10_commonTones 32 = .ok (.istore_n 3, 1) := by decide +kernel
theorem dX10_commonTones_33 : decode cX10_commonTones 33 = .ok (.iload_n 3, 1) := by decide +kernel
theorem dX10_commonTones_34 : decode cX10_commonTones 34 = .ok (.bipush 12, 2) := by decide +kernel
theorem dX10_commonTones_36 : decode cX10_commonTones 36 = .ok (.if_icmp .ge 37, 3) := by decide +kernel
theorem dX10_commonTones_39 : decode cX10_commonTones 39 = .ok (.iload_n 2, 1) := by decide +kernel
theorem dX10_commonTones_40 : decode cX10_commonTones 40 = .ok (.aload_n 0, 1) := by decide +kernel
theorem dX10_commonTones_41 : decode cX10_commonTones 41 = .ok (.iload_n 1, 1) := by decide +kernel
theorem dX10_commonTones_42 : decode cX10_commonTones 42 = .ok (.iload_n 3, 1) := by decide +kernel
theorem dX10_commonTones_43 : decode cX10_commonTones 43 = .ok (.invokevirtual 167, 3) := by decide +kernel
theorem dX10_commonTones_46 : decode cX10_commonTones 46 = .ok (.ifCond .eq 18, 3) := by decide +kernel
theorem dX10_commonTones_49 : decode cX10_commonTones 49 = .ok (.aload_n 0, 1) := by decide +kernel
theorem dX10_commonTones_50 : decode cX10_commonTones 50 = .ok (.iload_n 1, 1) := by decide +kernel
theorem dX10_commonTones_51 : decode cX10_commonTones 51 = .ok (.iconst 1, 1) := by decide +kernel
theorem dX10_commonTones_52 : decode cX10_commonTones 52 = .ok (.iadd, 1) := by decide +kernel
theorem dX10_commonTones_53 : decode cX10_commonTones 53 = .ok (.iload_n 3, 1) := by decide +kernel
theorem dX10_commonTones_54 : decode cX10_commonTones 54 = .ok (.invokevirtual 167, 3) := by decide +kernel
theorem dX10_commonTones_57 : decode cX10_commonTones 57 = .ok (.ifCond .eq 7, 3) := by decide +kernel
theorem dX10_commonTones_60 : decode cX10_commonTones 60 = .ok (.iconst 1, 1) := by decide +kernel
theorem dX10_commonTones_61 : decode cX10_commonTones 61 = .ok (.goto 4, 3) := by decide +kernel
theorem dX10_commonTones_64 : decode cX10_commonTones 64 = .ok (.iconst 0, 1) := by decide +kernel
theorem dX10_commonTones_65 : decode cX10_commonTones 65 = .ok (.iadd, 1) := by decide +kernel
theorem dX10_commonTones_66 : decode cX10_commonTones 66 = .ok (.istore_n 2, 1) := by decide +kernel
theorem dX10_commonTones_67 : decode cX10_commonTones 67 = .ok (.iinc 3 1, 3) := by decide +kernel
theorem dX10_commonTones_70 : decode cX10_commonTones 70 = .ok (.goto (-37), 3) := by decide +kernel
theorem dX10_commonTones_73 : decode cX10_commonTones 73 = .ok (.iload_n 2, 1) := by decide +kernel
theorem dX10_commonTones_74 : decode cX10_commonTones 74 = .ok (.ireturn, 1) := by decide +kernel
theorem dX10_isInScale_0 : decode cX10_isInScale 0 = .ok (.iconst 0, 1) := by decide +kernel
theorem dX10_isInScale_1 : decode cX10_isInScale 1 = .ok (.istore_n 2, 1) := by decide +kernel
theorem dX10_isInScale_2 : decode cX10_isInScale 2 = .ok (.iload_n 0, 1) := by decide +kernel
theorem dX10_isInScale_3 : decode cX10_isInScale 3 = .ok (.iconst 1, 1) := by decide +kernel
theorem dX10_isInScale_4 : decode cX10_isInScale 4 = .ok (.isub, 1) := by decide +kernel
theorem dX10_isInScale_5 : decode cX10_isInScale 5 = .ok (.istore_n 3, 1) := by decide +kernel
theorem dX10_isInScale_6 : decode cX10_isInScale 6 = .ok (.iload_n 3, 1) := by decide +kernel
theorem dX10_isInScale_7 : decode cX10_isInScale 7 = .ok (.iload_n 0, 1) := by decide +kernel
theorem dX10_isInScale_8 : decode cX10_isInScale 8 = .ok (.iconst 5, 1) := by decide +kernel
theorem dX10_isInScale_9 : decode cX10_isInScale 9 = .ok (.iadd, 1) := by decide +kernel
theorem dX10_isInScale_10 : decode cX10_isInScale 10 = .ok (.if_icmp .gt 27, 3) := by decide +kernel
theorem dX10_isInScale_13 : decode cX10_isInScale 13 = .ok (.iload_n 2, 1) := by decide +kernel
theorem dX10_isInScale_14 : decode cX10_isInScale 14 = .ok (.ifCond .ne 11, 3) := by decide +kernel
theorem dX10_isInScale_17 : decode cX10_isInScale 17 = .ok (.iload_n 3, 1) := by decide +kernel
theorem dX10_isInScale_18 : decode cX10_isInScale 18 = .ok (.invokestatic 161, 3) := by decide +kernel
theorem dX10_isInScale_21 : decode cX10_isInScale 21 = .ok (.iload_n 1, 1) := by decide +kernel
theorem dX10_isInScale_22 : decode cX10_isInScale 22 = .ok (.if_icmp .ne 7, 3) := by decide +kernel
theorem dX10_isInScale_25 : decode cX10_isInScale 25 = .ok (.iconst 1, 1) := by decide +kernel
theorem dX10_isInScale_26 : decode cX10_isInScale 26 = .ok (.goto 4, 3) := by decide +kernel
theorem dX10_isInScale_29 : decode cX10_isInScale 29 = .ok (.iconst 0, 1) := by decide +kernel
theorem dX10_isInScale_30 : decode cX10_isInScale 30 = .ok (.istore_n 2, 1) := by decide +kernel
theorem dX10_isInScale_31 : decode cX10_isInScale 31 = .ok (.iinc 3 1, 3) := by decide +kernel
theorem dX10_isInScale_34 : decode cX10_isInScale 34 = .ok (.goto (-28), 3) := by decide +kernel
theorem dX10_isInScale_37 : decode cX10_isInScale 37 = .ok (.iload_n 2, 1) := by decide +kernel
theorem dX10_isInScale_38 : decode cX10_isInScale 38 = .ok (.ireturn, 1) := by decide +kernel
theorem dX10_signatureNow_0 : decode cX10_signatureNow 0 = .ok (.aload_n 0, 1) := by decide +kernel
theorem dX10_signatureNow_1 : decode cX10_signatureNow 1 = .ok (.getfield 7, 3) := by decide +kernel
theorem dX10_signatureNow_4 : decode cX10_signatureNow 4 = .ok (.iconst 2, 1) := by decide +kernel
theorem dX10_signatureNow_5 : decode cX10_signatureNow 5 = .ok (.iaload, 1) := by decide +kernel
theorem dX10_signatureNow_6 : decode cX10_signatureNow 6 = .ok (.iconst 3, 1) := by decide +kernel
theorem dX10_signatureNow_7 : decode cX10_signatureNow 7 = .ok (.aload_n 0, 1) := by decide +kernel
theorem dX10_signatureNow_8 : decode cX10_signatureNow 8 = .ok (.getfield 7, 3) := by decide +kernel
theorem dX10_signatureNow_11 : decode cX10_signatureNow 11 = .ok (.iconst 3, 1) := by decide +kernel
theorem dX10_signatureNow_12 : decode cX10_signatureNow 12 = .ok (.iaload, 1) := by decide +kernel
theorem dX10_signatureNow_13 : decode cX10_signatureNow 13 = .ok (.imul, 1) := by decide +kernel
theorem dX10_signatureNow_14 : decode cX10_signatureNow 14 = .ok (.isub, 1) := by decide +kernel
theorem dX10_signatureNow_15 : decode cX10_signatureNow 15 = .ok (.ireturn, 1) := by decide +kernel
theorem dX10_degree_0 : decode cX10_degree 0 = .ok (.aload_n 0, 1) := by decide +kernel
theorem dX10_degree_1 : decode cX10_degree 1 = .ok (.iconst 0, 1) := by decide +kernel
theorem dX10_degree_2 : decode cX10_degree 2 = .ok (.putfield 46, 3) := by decide +kernel
theorem dX10_degree_5 : decode cX10_degree 5 = .ok (.aload_n 0, 1) := by decide +kernel
theorem dX10_degree_6 : decode cX10_degree 6 = .ok (.iload_n 1, 1) := by decide +kernel
theorem dX10_degree_7 : decode cX10_degree 7 = .ok (.invokevirtual 127, 3) := by decide +kernel
theorem dX10_degree_10 : decode cX10_degree 10 = .ok (.ifCond .ne 9, 3) := by decide +kernel
theorem dX10_degree_13 : decode cX10_degree 13 = .ok (.aload_n 0, 1) := by decide +kernel
theorem dX10_degree_14 : decode cX10_degree 14 = .ok (.iconst 1, 1) := by decide +kernel
theorem dX10_degree_15 : decode cX10_degree 15 = .ok (.invokevirtual 101, 3) := by decide +kernel
theorem dX10_degree_18 : decode cX10_degree 18 = .ok (.ireturn, 1) := by decide +kernel
theorem dX10_degree_19 : decode cX10_degree 19 = .ok (.aload_n 0, 1) := by decide +kernel
theorem dX10_degree_20 : decode cX10_degree 20 = .ok (.getfield 7, 3) := by decide +kernel
theorem dX10_degree_23 : decode cX10_degree 23 = .ok (.iload_n 1, 1) := by decide +kernel
theorem dX10_degree_24 : decode cX10_degree 24 = .ok (.invokestatic 94, 3) := by decide +kernel
theorem dX10_degree_27 : decode cX10_degree 27 = .ok (.iconst 2, 1) := by decide +kernel
theorem dX10_degree_28 : decode cX10_degree 28 = .ok (.iadd, 1) := by decide +kernel
theorem dX10_degree_29 : decode cX10_degree 29 = .ok (.iaload, 1) := by decide +kernel
theorem dX10_degree_30 : decode cX10_degree 30 = .ok (.invokestatic 161, 3) := by decide +kernel
theorem dX10_degree_33 : decode cX10_degree 33 = .ok (.istore_n 2, 1) := by decide +kernel
theorem dX10_degree_34 : decode cX10_degree 34 = .ok (.iconst 0, 1) := by decide +kernel
theorem dX10_degree_35 : decode cX10_degree 35 = .ok (.istore_n 3, 1) := by decide +kernel
theorem dX10_degree_36 : decode cX10_degree 36 = .ok (.iconst 0, 1) := by decide +kernel
theorem dX10_degree_37 : decode cX10_degree 37 = .ok (.istore 4, 2) := by decide +kernel
theorem dX10_degree_39 : decode cX10_degree 39 = .ok (.iload 4, 2) := by decide +kernel
theorem dX10_degree_41 : decode cX10_degree 41 = .ok (.bipush 12, 2) := by decide +kernel
theorem dX10_degree_43 : decode cX10_degree 43 = .ok (.if_icmp .ge 63, 3) := by decide +kernel
theorem dX10_degree_46 : decode cX10_degree 46 = .ok (.aload_n 0, 1) := by decide +kernel
theorem dX10_degree_47 : decode cX10_degree 47 = .ok (.getfield 7, 3) := by decide +kernel
theorem dX10_degree_50 : decode cX10_degree 50 = .ok (.iconst 2, 1) := by decide +kernel
theorem dX10_degree_51 : decode cX10_degree 51 = .ok (.iaload, 1) := by decide +kernel
theorem dX10_degree_52 : decode cX10_degree 52 = .ok (.invokestatic 161, 3) := by decide +kernel
theorem dX10_degree_55 : decode cX10_degree 55 = .ok (.iload 4, 2) := by decide +kernel
theorem dX10_degree_57 : decode cX10_degree 57 = .ok (.iadd, 1) := by decide +kernel
theorem dX10_degree_58 : decode cX10_degree 58 = .ok (.invokestatic 52, 3) := by decide +kernel
theorem dX10_degree_61 : decode cX10_degree 61 = .ok (.istore 5, 2) := by decide +kernel
theorem dX10_degree_63 : decode cX10_degree 63 = .ok (.aload_n 0, 1) := by decide +kernel
theorem dX10_degree_64 : decode cX10_degree 64 = .ok (.invokevirtual 171, 3) := by decide +kernel
theorem dX10_degree_67 : decode cX10_degree 67 = .ok (.iload 5, 2) := by decide +kernel
theorem dX10_degree_69 : decode cX10_degree 69 = .ok (.invokestatic 174, 3) := by decide +kernel
theorem dX10_degree_72 : decode cX10_degree 72 = .ok (.istore 6, 2) := by decide +kernel
theorem dX10_degree_74 : decode cX10_degree 74 = .ok (.iload_n 3, 1) := by decide +kernel
theorem dX10_degree_75 : decode cX10_degree 75 = .ok (.iload 6, 2) := by decide +kernel
theorem dX10_degree_77 : decode cX10_degree 77 = .ok (.ifCond .eq 7, 3) := by decide +kernel
theorem dX10_degree_80 : decode cX10_degree 80 = .ok (.iconst 1, 1) := by decide +kernel
theorem dX10_degree_81 : decode cX10_degree 81 = .ok (.goto 4, 3) := by decide +kernel
theorem dX10_degree_84 : decode cX10_degree 84 = .ok (.iconst 0, 1) := by decide +kernel
theorem dX10_degree_85 : decode cX10_degree 85 = .ok (.iadd, 1) := by decide +kernel
theorem dX10_degree_86 : decode cX10_degree 86 = .ok (.istore_n 3, 1) := by decide +kernel
theorem dX10_degree_87 : decode cX10_degree 87 = .ok (.iload 6, 2) := by decide +kernel
theorem dX10_degree_89 : decode cX10_degree 89 = .ok (.ifCond .eq 11, 3) := by decide +kernel
theorem dX10_degree_92 : decode cX10_degree 92 = .ok (.iload 5, 2) := by decide +kernel
theorem dX10_degree_94 : decode cX10_degree 94 = .ok (.iload_n 2, 1) := by decide +kernel
theorem dX10_degree_95 : decode cX10_degree 95 = .ok (.if_icmp .ne 5, 3) := by decide +kernel
theorem dX10_degree_98 : decode cX10_degree 98 = .ok (.iload_n 3, 1) := by decide +kernel
theorem dX10_degree_99 : decode cX10_degree 99 = .ok (.ireturn, 1) := by decide +kernel
theorem dX10_degree_100 : decode cX10_degree 100 = .ok (.iinc 4 1, 3) := by decide +kernel
theorem dX10_degree_103 : decode cX10_degree 103 = .ok (.goto (-64), 3) := by decide +kernel
theorem dX10_degree_106 : decode cX10_degree 106 = .ok (.iconst 0, 1) := by decide +kernel
theorem dX10_degree_107 : decode cX10_degree 107 = .ok (.ireturn, 1) := by decide +kernel
theorem dX10_tonic_0 : decode cX10_tonic 0 = .ok (.aload_n 0, 1) := by decide +kernel
theorem dX10_tonic_1 : decode cX10_tonic 1 = .ok (.iconst 0, 1) := by decide +kernel
theorem dX10_tonic_2 : decode cX10_tonic 2 = .ok (.putfield 46, 3) := by decide +kernel
theorem dX10_tonic_5 : decode cX10_tonic 5 = .ok (.aload_n 0, 1) := by decide +kernel
theorem dX10_tonic_6 : decode cX10_tonic 6 = .ok (.getfield 7, 3) := by decide +kernel
theorem dX10_tonic_9 : decode cX10_tonic 9 = .ok (.iconst 2, 1) := by decide +kernel
theorem dX10_tonic_10 : decode cX10_tonic 10 = .ok (.iaload, 1) := by decide +kernel
theorem dX10_tonic_11 : decode cX10_tonic 11 = .ok (.ireturn, 1) := by decide +kernel
theorem dX10_isMinor_0 : decode cX10_isMinor 0 = .ok (.aload_n 0, 1) := by decide +kernel
theorem dX10_isMinor_1 : decode cX10_isMinor 1 = .ok (.iconst 0, 1) := by decide +kernel
theorem dX10_isMinor_2 : decode cX10_isMinor 2 = .ok (.putfield 46, 3) := by decide +kernel
theorem dX10_isMinor_5 : decode cX10_isMinor 5 = .ok (.aload_n 0, 1) := by decide +kernel
theorem dX10_isMinor_6 : decode cX10_isMinor 6 = .ok (.getfield 7, 3) := by decide +kernel
theorem dX10_isMinor_9 : decode cX10_isMinor 9 = .ok (.iconst 3, 1) := by decide +kernel
theorem dX10_isMinor_10 : decode cX10_isMinor 10 = .ok (.iaload, 1) := by decide +kernel
theorem dX10_isMinor_11 : decode cX10_isMinor 11 = .ok (.iconst 1, 1) := by decide +kernel
theorem dX10_isMinor_12 : decode cX10_isMinor 12 = .ok (.if_icmp .ne 7, 3) := by decide +kernel
theorem dX10_isMinor_15 : decode cX10_isMinor 15 = .ok (.iconst 1, 1) := by decide +kernel
theorem dX10_isMinor_16 : decode cX10_isMinor 16 = .ok (.goto 4, 3) := by decide +kernel
theorem dX10_isMinor_19 : decode cX10_isMinor 19 = .ok (.iconst 0, 1) := by decide +kernel
theorem dX10_isMinor_20 : decode cX10_isMinor 20 = .ok (.ireturn, 1) := by decide +kernel
theorem dX10_signature_0 : decode cX10_signature 0 = .ok (.aload_n 0, 1) := by decide +kernel
theorem dX10_signature_1 : decode cX10_signature 1 = .ok (.iconst 0, 1) := by decide +kernel
theorem dX10_signature_2 : decode cX10_signature 2 = .ok (.putfield 46, 3) := by decide +kernel
theorem dX10_signature_5 : decode cX10_signature 5 = .ok (.aload_n 0, 1) := by decide +kernel
theorem dX10_signature_6 : decode cX10_signature 6 = .ok (.invokevirtual 171, 3) := by decide +kernel
theorem dX10_signature_9 : decode cX10_signature 9 = .ok (.ireturn, 1) := by decide +kernel
theorem dX10_isKey_0 : decode cX10_isKey 0 = .ok (.iload_n 1, 1) := by decide +kernel
theorem dX10_isKey_1 : decode cX10_isKey 1 = .ok (.ifCond .eq 9, 3) := by decide +kernel
theorem dX10_isKey_4 : decode cX10_isKey 4 = .ok (.iload_n 0, 1) := by decide +kernel
theorem dX10_isKey_5 : decode cX10_isKey 5 = .ok (.iconst 3, 1) := by decide +kernel
theorem dX10_isKey_6 : decode cX10_isKey 6 = .ok (.isub, 1) := by decide +kernel
theorem dX10_isKey_7 : decode cX10_isKey 7 = .ok (.goto 4, 3) := by decide +kernel
theorem dX10_isKey_10 : decode cX10_isKey 10 = .ok (.iload_n 0, 1) := by decide +kernel
theorem dX10_isKey_11 : decode cX10_isKey 11 = .ok (.bipush (-6), 2) := by decide +kernel
theorem dX10_isKey_13 : decode cX10_isKey 13 = .ok (.bipush 6, 2) := by decide +kernel
theorem dX10_isKey_15 : decode cX10_isKey 15 = .ok (.invokestatic 97, 3) := by decide +kernel
theorem dX10_isKey_18 : decode cX10_isKey 18 = .ok (.ireturn, 1) := by decide +kernel
theorem dX10_setKey_0 : decode cX10_setKey 0 = .ok (.aload_n 0, 1) := by decide +kernel
theorem dX10_setKey_1 : decode cX10_setKey 1 = .ok (.iconst 0, 1) := by decide +kernel
theorem dX10_setKey_2 : decode cX10_setKey 2 = .ok (.putfield 46, 3) := by decide +kernel
theorem dX10_setKey_5 : decode cX10_setKey 5 = .ok (.iload_n 1, 1) := by decide +kernel
theorem dX10_setKey_6 : decode cX10_setKey 6 = .ok (.iload_n 2, 1) := by decide +kernel
theorem dX10_setKey_7 : decode cX10_setKey 7 = .ok (.invokestatic 177, 3) := by decide +kernel
theorem dX10_setKey_10 : decode cX10_setKey 10 = .ok (.ifCond .ne 9, 3) := by decide +kernel
theorem dX10_setKey_13 : decode cX10_setKey 13 = .ok (.aload_n 0, 1) := by decide +kernel
theorem dX10_setKey_14 : decode cX10_setKey 14 = .ok (.iconst 1, 1) := by decide +kernel
theorem dX10_setKey_15 : decode cX10_setKey 15 = .ok (.invokevirtual 101, 3) := by decide +kernel
theorem dX10_setKey_18 : decode cX10_setKey 18 = .ok (.ireturn, 1) := by decide +kernel
theorem dX10_setKey_19 : decode cX10_setKey 19 = .ok (.aload_n 0, 1) := by decide +kernel
theorem dX10_setKey_20 : decode cX10_setKey 20 = .ok (.invokevirtual 107, 3) := by decide +kernel
theorem dX10_setKey_23 : decode cX10_setKey 23 = .ok (.aload_n 0, 1) := by decide +kernel
theorem dX10_setKey_24 : decode cX10_setKey 24 = .ok (.invokevirtual 171, 3) := by decide +kernel
theorem dX10_setKey_27 : decode cX10_setKey 27 = .ok (.istore_n 3, 1) := by decide +kernel
theorem dX10_setKey_28 : decode cX10_setKey 28 = .ok (.aload_n 0, 1) := by decide +kernel
theorem dX10_setKey_29 : decode cX10_setKey 29 = .ok (.getfield 7, 3) := by decide +kernel
theorem dX10_setKey_32 : decode cX10_setKey 32 = .ok (.iconst 2, 1) := by decide +kernel
theorem dX10_setKey_33 : decode cX10_setKey 33 = .ok (.iload_n 1, 1) := by decide +kernel
theorem dX10_setKey_34 : decode cX10_setKey 34 = .ok (.iastore, 1) := by decide +kernel
theorem dX10_setKey_35 : decode cX10_setKey 35 = .ok (.aload_n 0, 1) := by decide +kernel
theorem dX10_setKey_36 : decode cX10_setKey 36 = .ok (.getfield 7, 3) := by decide +kernel
theorem dX10_setKey_39 : decode cX10_setKey 39 = .ok (.iconst 3, 1) := by decide +kernel
theorem dX10_setKey_40 : decode cX10_setKey 40 = .ok (.iload_n 2, 1) := by decide +kernel
theorem dX10_setKey_41 : decode cX10_setKey 41 = .ok (.ifCond .eq 7, 3) := by decide +kernel
theorem dX10_setKey_44 : decode cX10_setKey 44 = .ok (.iconst 1, 1) := by decide +kernel
theorem dX10_setKey_45 : decode cX10_setKey 45 = .ok (.goto 4, 3) := by decide +kernel
theorem dX10_setKey_48 : decode cX10_setKey 48 = .ok (.iconst 0, 1) := by decide +kernel
theorem dX10_setKey_49 : decode cX10_setKey 49 = .ok (.iastore, 1) := by decide +kernel
theorem dX10_setKey_50 : decode cX10_setKey 50 = .ok (.iload_n 3, 1) := by decide +kernel
theorem dX10_setKey_51 : decode cX10_setKey 51 = .ok (.ireturn, 1) := by decide +kernel
theorem dX10_isMinorChord_0 : decode cX10_isMinorChord 0 = .ok (.iload_n 0, 1) := by decide +kernel
theorem dX10_isMinorChord_1 : decode cX10_isMinorChord 1 = .ok (.iconst 1, 1) := by decide +kernel
theorem dX10_isMinorChord_2 : decode cX10_isMinorChord 2 = .ok (.if_icmp .eq 13, 3) := by decide +kernel
theorem dX10_isMinorChord_5 : decode cX10_isMinorChord 5 = .ok (.iload_n 0, 1) := by decide +kernel
theorem dX10_isMinorChord_6 : decode cX10_isMinorChord 6 = .ok (.iconst 3, 1) := by decide +kernel
theorem dX10_isMinorChord_7 : decode cX10_isMinorChord 7 = .ok (.if_icmp .eq 8, 3) := by decide +kernel
theorem dX10_isMinorChord_10 : decode cX10_isMinorChord 10 = .ok (.iload_n 0, 1) := by decide +kernel
theorem dX10_isMinorChord_11 : decode cX10_isMinorChord 11 = .ok (.iconst 5, 1) := by decide +kernel
theorem dX10_isMinorChord_12 : decode cX10_isMinorChord 12 = .ok (.if_icmp .ne 7, 3) := by decide +kernel
theorem dX10_isMinorChord_15 : decode cX10_isMinorChord 15 = .ok (.iconst 1, 1) := by decide +kernel
theorem dX10_isMinorChord_16 : decode cX10_isMinorChord 16 = .ok (.goto 4, 3) := by decide +kernel
theorem dX10_isMinorChord_19 : decode cX10_isMinorChord 19 = .ok (.iconst 0, 1) := by decide +kernel
theorem dX10_isMinorChord_20 : decode cX10_isMinorChord 20 = .ok (.ireturn, 1) := by decide +kernel
theorem dX10_scoreOf_0 : decode cX10_scoreOf 0 = .ok (.iconst 0, 1) := by decide +kernel
theorem dX10_scoreOf_1 : decode cX10_scoreOf 1 = .ok (.istore_n 3, 1) := by decide +kernel
theorem dX10_scoreOf_2 : decode cX10_scoreOf 2 = .ok (.iconst 0, 1) := by decide +kernel
theorem dX10_scoreOf_3 : decode cX10_scoreOf 3 = .ok (.istore 4, 2) := by decide +kernel
theorem dX10_scoreOf_5 : decode cX10_scoreOf 5 = .ok (.iload 4, 2) := by decide +kernel
theorem dX10_scoreOf_7 : decode cX10_scoreOf 7 = .ok (.aload_n 0, 1) := by decide +kernel
theorem dX10_scoreOf_8 : decode cX10_scoreOf 8 = .ok (.getfield 7, 3) := by decide +kernel
theorem dX10_scoreOf_11 : decode cX10_scoreOf 11 = .ok (.iconst 1, 1) := by decide +kernel
theorem dX10_scoreOf_12 : decode cX10_scoreOf 12 = .ok (.iaload, 1) := by decide +kernel
theorem dX10_scoreOf_13 : decode cX10_scoreOf 13 = .ok (.if_icmp .ge 140, 3) := by decide +kernel
theorem dX10_scoreOf_16 : decode cX10_scoreOf 16 = .ok (.aload_n 0, 1) := by decide +kernel
theorem dX10_scoreOf_17 : decode cX10_scoreOf 17 = .ok (.getfield 7, 3) := by decide +kernel
theorem dX10_scoreOf_20 : decode cX10_scoreOf 20 = .ok (.iload 4, 2) := by decide +kernel
theorem dX10_scoreOf_22 : decode cX10_scoreOf 22 = .ok (.invokestatic 94, 3) := by decide +kernel
theorem dX10_scoreOf_25 : decode cX10_scoreOf 25 = .ok (.iconst 2, 1) := by decide +kernel
theorem dX10_scoreOf_26 : decode cX10_scoreOf 26 = .ok (.iadd, 1) := by decide +kernel
theorem dX10_scoreOf_27 : decode cX10_scoreOf 27 = .ok (.iaload, 1) := by decide +kernel
theorem dX10_scoreOf_28 : decode cX10_scoreOf 28 = .ok (.invokestatic 161, 3) := by decide +kernel
theorem dX10_scoreOf_31 : decode cX10_scoreOf 31 = .ok (.istore 5, 2) := by decide +kernel
theorem dX10_scoreOf_33 : decode cX10_scoreOf 33 = .ok (.iload 5, 2) := by decide +kernel
theorem dX10_scoreOf_35 : decode cX10_scoreOf 35 = .ok (.iload_n 1, 1) := by decide +kernel
theorem dX10_scoreOf_36 : decode cX10_scoreOf 36 = .ok (.invokestatic 161, 3) := by decide +kernel
theorem dX10_scoreOf_39 : decode cX10_scoreOf 39 = .ok (.if_icmp .ne 7, 3) := by decide +kernel
theorem dX10_scoreOf_42 : decode cX10_scoreOf 42 = .ok (.iconst 1, 1) := by decide +kernel
theorem dX10_scoreOf_43 : decode cX10_scoreOf 43 = .ok (.goto 4, 3) := by decide +kernel
theorem dX10_scoreOf_46 : decode cX10_scoreOf 46 = .ok (.iconst 0, 1) := by decide +kernel
theorem dX10_scoreOf_47 : decode cX10_scoreOf 47 = .ok (.istore 6, 2) := by decide +kernel
theorem dX10_scoreOf_49 : decode cX10_scoreOf 49 = .ok (.iload_n 3, 1) := by decide +kernel
theorem dX10_scoreOf_50 : decode cX10_scoreOf 50 = .ok (.iload_n 2, 1) := by decide +kernel
theorem dX10_scoreOf_51 : decode cX10_scoreOf 51 = .ok (.ifCond .eq 9, 3) := by decide +kernel
theorem dX10_scoreOf_54 : decode cX10_scoreOf 54 = .ok (.iload_n 1, 1) := by decide +kernel
theorem dX10_scoreOf_55 : decode cX10_scoreOf 55 = .ok (.iconst 3, 1) := by decide +kernel
theorem dX10_scoreOf_56 : decode cX10_scoreOf 56 = .ok (.isub, 1) := by decide +kernel
theorem dX10_scoreOf_57 : decode cX10_scoreOf 57 = .ok (.goto 4, 3) := by decide +kernel
theorem dX10_scoreOf_60 : decode cX10_scoreOf 60 = .ok (.iload_n 1, 1) := by decide +kernel
theorem dX10_scoreOf_61 : decode cX10_scoreOf 61 = .ok (.iload 5, 2) := by decide +kernel
theorem dX10_scoreOf_63 : decode cX10_scoreOf 63 = .ok (.invokestatic 174, 3) := by decide +kernel
theorem dX10_scoreOf_66 : decode cX10_scoreOf 66 = .ok (.ifCond .eq 7, 3) := by decide +kernel
theorem dX10_scoreOf_69 : decode cX10_scoreOf 69 = .ok (.iconst 2, 1) := by decide +kernel
theorem dX10_scoreOf_70 : decode cX10_scoreOf 70 = .ok (.goto 4, 3) := by decide +kernel
theorem dX10_scoreOf_73 : decode cX10_scoreOf 73 = .ok (.iconst 0, 1) := by decide +kernel
theorem dX10_scoreOf_74 : decode cX10_scoreOf 74 = .ok (.iadd, 1) := by decide +kernel
theorem dX10_scoreOf_75 : decode cX10_scoreOf 75 = .ok (.istore_n 3, 1) := by decide +kernel
theorem dX10_scoreOf_76 : decode cX10_scoreOf 76 = .ok (.iload_n 3, 1) := by decide +kernel
theorem dX10_scoreOf_77 : decode cX10_scoreOf 77 = .ok (.iload 6, 2) := by decide +kernel
theorem dX10_scoreOf_79 : decode cX10_scoreOf 79 = .ok (.ifCond .eq 7, 3) := by decide +kernel
theorem dX10_scoreOf_82 : decode cX10_scoreOf 82 = .ok (.iconst 1, 1) := by decide +kernel
theorem dX10_scoreOf_83 : decode cX10_scoreOf 83 = .ok (.goto 4, 3) := by decide +kernel
theorem dX10_scoreOf_86 : decode cX10_scoreOf 86 = .ok (.iconst 0, 1) := by decide +kernel
theorem dX10_scoreOf_87 : decode cX10_scoreOf 87 = .ok (.iadd, 1) := by decide +kernel
theorem dX10_scoreOf_88 : decode cX10_scoreOf 88 = .ok (.istore_n 3, 1) := by decide +kernel
theorem dX10_scoreOf_89 : decode cX10_scoreOf 89 = .ok (.iload_n 3, 1) := by decide +kernel
theorem dX10_scoreOf_90 : decode cX10_scoreOf 90 = .ok (.iload 6, 2) := by decide +kernel
theorem dX10_scoreOf_92 : decode cX10_scoreOf 92 = .ok (.ifCond .eq 26, 3) := by decide +kernel
theorem dX10_scoreOf_95 : decode cX10_scoreOf 95 = .ok (.aload_n 0, 1) := by decide +kernel
theorem dX10_scoreOf_96 : decode cX10_scoreOf 96 = .ok (.getfield 7, 3) := by decide +kernel
theorem dX10_scoreOf_99 : decode cX10_scoreOf 99 = .ok (.iload 4, 2) := by decide +kernel
theorem dX10_scoreOf_101 : decode cX10_scoreOf 101 = .ok (.invokestatic 94, 3) := by decide +kernel
theorem dX10_scoreOf_104 : decode cX10_scoreOf 104 = .ok (.iconst 3, 1) := by decide +kernel
theorem dX10_scoreOf_105 : decode cX10_scoreOf 105 = .ok (.iadd, 1) := by decide +kernel
theorem dX10_scoreOf_106 : decode cX10_scoreOf 106 = .ok (.iaload, 1) := by decide +kernel
theorem dX10_scoreOf_107 : decode cX10_scoreOf 107 = .ok (.invokestatic 181, 3) := by decide +kernel
theorem dX10_scoreOf_110 : decode cX10_scoreOf 110 = .ok (.iload_n 2, 1) := by decide +kernel
theorem dX10_scoreOf_111 : decode cX10_scoreOf 111 = .ok (.if_icmp .ne 7, 3) := by decide +kernel
theorem dX10_scoreOf_114 : decode cX10_scoreOf 114 = .ok (.iconst 1, 1) := by decide +kernel
theorem dX10_scoreOf_115 : decode cX10_scoreOf 115 = .ok (.goto 4, 3) := by decide +kernel
theorem dX10_scoreOf_118 : decode cX10_scoreOf 118 = .ok (.iconst 0, 1) := by decide +kernel
theorem dX10_scoreOf_119 : decode cX10_scoreOf 119 = .ok (.iadd, 1) := by decide +kernel
theorem dX10_scoreOf_120 : decode cX10_scoreOf 120 = .ok (.istore_n 3, 1) := by decide +kernel
theorem dX10_scoreOf_121 : decode cX10_scoreOf 121 = .ok (.iload_n 3, 1) := by decide +kernel
theorem dX10_scoreOf_122 : decode cX10_scoreOf 122 = .ok (.iload 6, 2) := by decide +kernel
theorem dX10_scoreOf_124 : decode cX10_scoreOf 124 = .ok (.ifCond .eq 20, 3) := by decide +kernel
theorem dX10_scoreOf_127 : decode cX10_scoreOf 127 = .ok (.iload 4, 2) := by decide +kernel
theorem dX10_scoreOf_129 : decode cX10_scoreOf 129 = .ok (.aload_n 0, 1) := by decide +kernel
theorem dX10_scoreOf_130 : decode cX10_scoreOf 130 = .ok (.getfield 7, 3) := by decide +kernel
theorem dX10_scoreOf_133 : decode cX10_scoreOf 133 = .ok (.iconst 1, 1) := by decide +kernel
theorem dX10_scoreOf_134 : decode cX10_scoreOf 134 = .ok (.iaload, 1) := by decide +kernel
theorem dX10_scoreOf_135 : decode cX10_scoreOf 135 = .ok (.iconst 1, 1) := by decide +kernel
theorem dX10_scoreOf_136 : decode cX10_scoreOf 136 = .ok (.isub, 1) := by decide +kernel
theorem dX10_scoreOf_137 : decode cX10_scoreOf 137 = .ok (.if_icmp .ne 7, 3) := by decide +kernel
theorem dX10_scoreOf_140 : decode cX10_scoreOf 140 = .ok (.iconst 2, 1) := by decide +kernel
theorem dX10_scoreOf_141 : decode cX10_scoreOf 141 = .ok (.goto 4, 3) := by decide +kernel
theorem dX10_scoreOf_144 : decode cX10_scoreOf 144 = .ok (.iconst 0, 1) := by decide +kernel
theorem dX10_scoreOf_145 : decode cX10_scoreOf 145 = .ok (.iadd, 1) := by decide +kernel
theorem dX10_scoreOf_146 : decode cX10_scoreOf 146 = .ok (.istore_n 3, 1) := by decide +kernel
theorem dX10_scoreOf_147 : decode cX10_scoreOf 147 = .ok (.iinc 4 1, 3) := by decide +kernel
theorem dX10_scoreOf_150 : decode cX10_scoreOf 150 = .ok (.goto (-145), 3) := by decide +kernel
theorem dX10_scoreOf_153 : decode cX10_scoreOf 153 = .ok (.iload_n 3, 1) := by decide +kernel
theorem dX10_scoreOf_154 : decode cX10_scoreOf 154 = .ok (.ireturn, 1) := by decide +kernel
theorem dX10_score_0 : decode cX10_score 0 = .ok (.aload_n 0, 1) := by decide +kernel
theorem dX10_score_1 : decode cX10_score 1 = .ok (.iconst 0, 1) := by decide +kernel
theorem dX10_score_2 : decode cX10_score 2 = .ok (.putfield 46, 3) := by decide +kernel
theorem dX10_score_5 : decode cX10_score 5 = .ok (.iload_n 1, 1) := by decide +kernel
theorem dX10_score_6 : decode cX10_score 6 = .ok (.iload_n 2, 1) := by decide +kernel
theorem dX10_score_7 : decode cX10_score 7 = .ok (.invokestatic 177, 3) := by decide +kernel
theorem dX10_score_10 : decode cX10_score 10 = .ok (.ifCond .eq 12, 3) := by decide +kernel
theorem dX10_score_13 : decode cX10_score 13 = .ok (.aload_n 0, 1) := by decide +kernel
theorem dX10_score_14 : decode cX10_score 14 = .ok (.iload_n 1, 1) := by decide +kernel
theorem dX10_score_15 : decode cX10_score 15 = .ok (.iload_n 2, 1) := by decide +kernel
theorem dX10_score_16 : decode cX10_score 16 = .ok (.invokevirtual 184, 3) := by decide +kernel
theorem dX10_score_19 : decode cX10_score 19 = .ok (.goto 8, 3) := by decide +kernel
theorem dX10_score_22 : decode cX10_score 22 = .ok (.aload_n 0, 1) := by decide +kernel
theorem dX10_score_23 : decode cX10_score 23 = .ok (.iconst 1, 1) := by decide +kernel
theorem dX10_score_24 : decode cX10_score 24 = .ok (.invokevirtual 101, 3) := by decide +kernel
theorem dX10_score_27 : decode cX10_score 27 = .ok (.ireturn, 1) := by decide +kernel
theorem dX10_found_0 : decode cX10_found 0 = .ok (.iconst 0, 1) := by decide +kernel
theorem dX10_found_1 : decode cX10_found 1 = .ok (.istore_n 1, 1) := by decide +kernel
theorem dX10_found_2 : decode cX10_found 2 = .ok (.aload_n 0, 1) := by decide +kernel
theorem dX10_found_3 : decode cX10_found 3 = .ok (.iconst 0, 1) := by decide +kernel
theorem dX10_found_4 : decode cX10_found 4 = .ok (.iconst 0, 1) := by decide +kernel
theorem dX10_found_5 : decode cX10_found 5 = .ok (.invokevirtual 184, 3) := by decide +kernel
theorem dX10_found_8 : decode cX10_found 8 = .ok (.istore_n 2, 1) := by decide +kernel
theorem dX10_found_9 : decode cX10_found 9 = .ok (.iconst 0, 1) := by decide +kernel
theorem dX10_found_10 : decode cX10_found 10 = .ok (.istore_n 3, 1) := by decide +kernel
theorem dX10_found_11 : decode cX10_found 11 = .ok (.iload_n 3, 1) := by decide +kernel
theorem dX10_found_12 : decode cX10_found 12 = .ok (.iconst 2, 1) := by decide +kernel
theorem dX10_found_13 : decode cX10_found 13 = .ok (.if_icmp .ge 92, 3) := by decide +kernel
theorem dX10_found_16 : decode cX10_found 16 = .ok (.iconst 0, 1) := by decide +kernel
theorem dX10_found_17 : decode cX10_found 17 = .ok (.istore 4, 2) := by decide +kernel
theorem dX10_found_19 : decode cX10_found 19 = .ok (.iload 4, 2) := by decide +kernel
theorem dX10_found_21 : decode cX10_found 21 = .ok (.bipush 12, 2) := by decide +kernel
theorem dX10_found_23 : decode cX10_found 23 = .ok (.if_icmp .gt 76, 3) := by decide +kernel
theorem dX10_found_26 : decode cX10_found 26 = .ok (.iload 4, 2) := by decide +kernel
theorem dX10_found_28 : decode cX10_found 28 = .ok (.iconst 2, 1) := by decide +kernel
theorem dX10_found_29 : decode cX10_found 29 = .ok (.irem, 1) := by decide +kernel
theorem dX10_found_30 : decode cX10_found 30 = .ok (.iconst 1, 1) := by decide +kernel
theorem dX10_found_31 : decode cX10_found 31 = .ok (.if_icmp .ne 12, 3) := by decide +kernel
theorem dX10_found_34 : decode cX10_found 34 = .ok (.iload 4, 2) := by decide +kernel
theorem dX10_found_36 : decode cX10_found 36 = .ok (.iconst 2, 1) := by decide +kernel
theorem dX10_found_37 : decode cX10_found 37 = .ok (.idiv, 1) := by decide +kernel
theorem dX10_found_38 : decode cX10_found 38 = .ok (.iconst 1, 1) := by decide +kernel
theorem dX10_found_39 : decode cX10_found 39 = .ok (.iadd, 1) := by decide +kernel
theorem dX10_found_40 : decode cX10_found 40 = .ok (.goto 8, 3) := by decide +kernel
theorem dX10_found_43 : decode cX10_found 43 = .ok (.iload 4, 2) := by decide +kernel
theorem dX10_found_45 : decode cX10_found 45 = .ok (.iconst 2, 1) := by decide +kernel
theorem dX10_found_46 : decode cX10_found 46 = .ok (.idiv, 1) := by decide +kernel
theorem dX10_found_47 : decode cX10_found 47 = .ok (.ineg, 1) := by decide +kernel
theorem dX10_found_48 : decode cX10_found 48 = .ok (.istore 5, 2) := by decide +kernel
theorem dX10_found_50 : decode cX10_found 50 = .ok (.iload 5, 2) := by decide +kernel
theorem dX10_found_52 : decode cX10_found 52 = .ok (.iconst 3, 1) := by decide +kernel
theorem dX10_found_53 : decode cX10_found 53 = .ok (.iload_n 3, 1) := by decide +kernel
theorem dX10_found_54 : decode cX10_found 54 = .ok (.imul, 1) := by decide +kernel
theorem dX10_found_55 : decode cX10_found 55 = .ok (.iadd, 1) := by decide +kernel
theorem dX10_found_56 : decode cX10_found 56 = .ok (.istore 6, 2) := by decide +kernel
theorem dX10_found_58 : decode cX10_found 58 = .ok (.aload_n 0, 1) := by decide +kernel
theorem dX10_found_59 : decode cX10_found 59 = .ok (.iload 6, 2) := by decide +kernel
theorem dX10_found_61 : decode cX10_found 61 = .ok (.iload_n 3, 1) := by decide +kernel
theorem dX10_found_62 : decode cX10_found 62 = .ok (.iconst 1, 1) := by decide +kernel
theorem dX10_found_63 : decode cX10_found 63 = .ok (.if_icmp .ne 7, 3) := by decide +kernel
theorem dX10_found_66 : decode cX10_found 66 = .ok (.iconst 1, 1) := by decide +kernel
theorem dX10_found_67 : decode cX10_found 67 = .ok (.goto 4, 3) := by decide +kernel
theorem dX10_found_70 : decode cX10_found 70 = .ok (.iconst 0, 1) := by decide +kernel
theorem dX10_found_71 : decode cX10_found 71 = .ok (.invokevirtual 184, 3) := by decide +kernel
theorem dX10_found_74 : decode cX10_found 74 = .ok (.istore 7, 2) := by decide +kernel
theorem dX10_found_76 : decode cX10_found 76 = .ok (.iload 7, 2) := by decide +kernel
theorem dX10_found_78 : decode cX10_found 78 = .ok (.iload_n 2, 1) := by decide +kernel
theorem dX10_found_79 : decode cX10_found 79 = .ok (.if_icmp .le 14, 3) := by decide +kernel
theorem dX10_found_82 : decode cX10_found 82 = .ok (.iload 7, 2) := by decide +kernel
theorem dX10_found_84 : decode cX10_found 84 = .ok (.istore_n 2, 1) := by decide +kernel
theorem dX10_found_85 : decode cX10_found 85 = .ok (.iload 6, 2) := by decide +kernel
theorem dX10_found_87 : decode cX10_found 87 = .ok (.bipush 100, 2) := by decide +kernel
theorem dX10_found_89 : decode cX10_found 89 = .ok (.iload_n 3, 1) := by decide +kernel
theorem dX10_found_90 : decode cX10_found 90 = .ok (.imul, 1) := by decide +kernel
theorem dX10_found_91 : decode cX10_found 91 = .ok (.iadd, 1) := by decide +kernel
theorem dX10_found_92 : decode cX10_found 92 = .ok (.istore_n 1, 1) := by decide +kernel
theorem dX10_found_93 : decode cX10_found 93 = .ok (.iinc 4 1, 3) := by decide +kernel
theorem dX10_found_96 : decode cX10_found 96 = .ok (.goto (-77), 3) := by decide +kernel
theorem dX10_found_99 : decode cX10_found 99 = .ok (.iinc 3 1, 3) := by decide +kernel
theorem dX10_found_102 : decode cX10_found 102 = .ok (.goto (-91), 3) := by decide +kernel
theorem dX10_found_105 : decode cX10_found 105 = .ok (.iload_n 1, 1) := by decide +kernel
theorem dX10_found_106 : decode cX10_found 106 = .ok (.ireturn, 1) := by decide +kernel
theorem dX10_findKey_0 : decode cX10_findKey 0 = .ok (.aload_n 0, 1) := by decide +kernel
theorem dX10_findKey_1 : decode cX10_findKey 1 = .ok (.iconst 0, 1) := by decide +kernel
theorem dX10_findKey_2 : decode cX10_findKey 2 = .ok (.putfield 46, 3) := by decide +kernel
theorem dX10_findKey_5 : decode cX10_findKey 5 = .ok (.aload_n 0, 1) := by decide +kernel
theorem dX10_findKey_6 : decode cX10_findKey 6 = .ok (.invokevirtual 110, 3) := by decide +kernel
theorem dX10_findKey_9 : decode cX10_findKey 9 = .ok (.ireturn, 1) := by decide +kernel
theorem dX10_spelled_0 : decode cX10_spelled 0 = .ok (.aload_n 0, 1) := by decide +kernel
theorem dX10_spelled_1 : decode cX10_spelled 1 = .ok (.invokevirtual 171, 3) := by decide +kernel
theorem dX10_spelled_4 : decode cX10_spelled 4 = .ok (.iconst 3, 1) := by decide +kernel
theorem dX10_spelled_5 : decode cX10_spelled 5 = .ok (.isub, 1) := by decide +kernel
theorem dX10_spelled_6 : decode cX10_spelled 6 = .ok (.istore_n 2, 1) := by decide +kernel
theorem dX10_spelled_7 : decode cX10_spelled 7 = .ok (.iload_n 2, 1) := by decide +kernel
theorem dX10_spelled_8 : decode cX10_spelled 8 = .ok (.invokestatic 161, 3) := by decide +kernel
theorem dX10_spelled_11 : decode cX10_spelled 11 = .ok (.iload_n 1, 1) := by decide +kernel
theorem dX10_spelled_12 : decode cX10_spelled 12 = .ok (.if_icmp .eq 9, 3) := by decide +kernel
theorem dX10_spelled_15 : decode cX10_spelled 15 = .ok (.iinc 2 1, 3) := by decide +kernel
theorem dX10_spelled_18 : decode cX10_spelled 18 = .ok (.goto (-11), 3) := by decide +kernel
theorem dX10_spelled_21 : decode cX10_spelled 21 = .ok (.aload_n 0, 1) := by decide +kernel
theorem dX10_spelled_22 : decode cX10_spelled 22 = .ok (.getfield 19, 3) := by decide +kernel
theorem dX10_spelled_25 : decode cX10_spelled 25 = .ok (.ifCond .eq 30, 3) := by decide +kernel
theorem dX10_spelled_28 : decode cX10_spelled 28 = .ok (.iload_n 2, 1) := by decide +kernel
theorem dX10_spelled_29 : decode cX10_spelled 29 = .ok (.bipush (-8), 2) := by decide +kernel
theorem dX10_spelled_31 : decode cX10_spelled 31 = .ok (.bipush 12, 2) := by decide +kernel
theorem dX10_spelled_33 : decode cX10_spelled 33 = .ok (.invokestatic 97, 3) := by decide +kernel
theorem dX10_spelled_36 : decode cX10_spelled 36 = .ok (.ifCond .ne 19, 3) := by decide +kernel
theorem dX10_spelled_39 : decode cX10_spelled 39 = .ok (.iconst (-1), 1) := by decide +kernel
theorem dX10_spelled_40 : decode cX10_spelled 40 = .ok (.istore_n 2, 1) := by decide +kernel
theorem dX10_spelled_41 : decode cX10_spelled 41 = .ok (.iload_n 2, 1) := by decide +kernel
theorem dX10_spelled_42 : decode cX10_spelled 42 = .ok (.invokestatic 161, 3) := by decide +kernel
theorem dX10_spelled_45 : decode cX10_spelled 45 = .ok (.iload_n 1, 1) := by decide +kernel
theorem dX10_spelled_46 : decode cX10_spelled 46 = .ok (.if_icmp .eq 9, 3) := by decide +kernel
theorem dX10_spelled_49 : decode cX10_spelled 49 = .ok (.iinc 2 1, 3) := by decide +kernel
theorem dX10_spelled_52 : decode cX10_spelled 52 = .ok (.goto (-11), 3) := by decide +kernel
theorem dX10_spelled_55 : decode cX10_spelled 55 = .ok (.iload_n 2, 1) := by decide +kernel
theorem dX10_spelled_56 : decode cX10_spelled 56 = .ok (.ireturn, 1) := by decide +kernel
theorem dX10_spells_0 : decode cX10_spells 0 = .ok (.iconst 0, 1) := by decide +kernel
theorem dX10_spells_1 : decode cX10_spells 1 = .ok (.istore_n 2, 1) := by decide +kernel
theorem dX10_spells_2 : decode cX10_spells 2 = .ok (.iconst 0, 1) := by decide +kernel
theorem dX10_spells_3 : decode cX10_spells 3 = .ok (.istore_n 3, 1) := by decide +kernel
theorem dX10_spells_4 : decode cX10_spells 4 = .ok (.iload_n 3, 1) := by decide +kernel
theorem dX10_spells_5 : decode cX10_spells 5 = .ok (.aload_n 0, 1) := by decide +kernel
theorem dX10_spells_6 : decode cX10_spells 6 = .ok (.getfield 7, 3) := by decide +kernel
theorem dX10_spells_9 : decode cX10_spells 9 = .ok (.iconst 1, 1) := by decide +kernel
theorem dX10_spells_10 : decode cX10_spells 10 = .ok (.iaload, 1) := by decide +kernel
theorem dX10_spells_11 : decode cX10_spells 11 = .ok (.if_icmp .ge 102, 3) := by decide +kernel
theorem dX10_spells_14 : decode cX10_spells 14 = .ok (.iconst 2, 1) := by decide +kernel
theorem dX10_spells_15 : decode cX10_spells 15 = .ok (.istore 4, 2) := by decide +kernel
theorem dX10_spells_17 : decode cX10_spells 17 = .ok (.iload 4, 2) := by decide +kernel
theorem dX10_spells_19 : decode cX10_spells 19 = .ok (.iconst 4, 1) := by decide +kernel
theorem dX10_spells_20 : decode cX10_spells 20 = .ok (.if_icmp .gt 87, 3) := by decide +kernel
theorem dX10_spells_23 : decode cX10_spells 23 = .ok (.aload_n 0, 1) := by decide +kernel
theorem dX10_spells_24 : decode cX10_spells 24 = .ok (.getfield 7, 3) := by decide +kernel
theorem dX10_spells_27 : decode cX10_spells 27 = .ok (.iload_n 3, 1) := by decide +kernel
theorem dX10_spells_28 : decode cX10_spells 28 = .ok (.invokestatic 94, 3) := by decide +kernel
theorem dX10_spells_31 : decode cX10_spells 31 = .ok (.iload 4, 2) := by decide +kernel
theorem dX10_spells_33 : decode cX10_spells 33 = .ok (.iadd, 1) := by decide +kernel
theorem dX10_spells_34 : decode cX10_spells 34 = .ok (.iaload, 1) := by decide +kernel
theorem dX10_spells_35 : decode cX10_spells 35 = .ok (.istore 5, 2) := by decide +kernel
theorem dX10_spells_37 : decode cX10_spells 37 = .ok (.iload 4, 2) := by decide +kernel
theorem dX10_spells_39 : decode cX10_spells 39 = .ok (.iconst 2, 1) := by decide +kernel
theorem dX10_spells_40 : decode cX10_spells 40 = .ok (.if_icmp .eq 10, 3) := by decide +kernel
theorem dX10_spells_43 : decode cX10_spells 43 = .ok (.iload 5, 2) := by decide +kernel
theorem dX10_spells_45 : decode cX10_spells 45 = .ok (.bipush 100, 2) := by decide +kernel
theorem dX10_spells_47 : decode cX10_spells 47 = .ok (.if_icmp .eq 54, 3) := by decide +kernel
theorem dX10_spells_50 : decode cX10_spells 50 = .ok (.aload_n 0, 1) := by decide +kernel
theorem dX10_spells_51 : decode cX10_spells 51 = .ok (.getfield 7, 3) := by decide +kernel
theorem dX10_spells_54 : decode cX10_spells 54 = .ok (.iload_n 3, 1) := by decide +kernel
theorem dX10_spells_55 : decode cX10_spells 55 = .ok (.invokestatic 94, 3) := by decide +kernel
theorem dX10_spells_58 : decode cX10_spells 58 = .ok (.iload 4, 2) := by decide +kernel
theorem dX10_spells_60 : decode cX10_spells 60 = .ok (.iadd, 1) := by decide +kernel
theorem dX10_spells_61 : decode cX10_spells 61 = .ok (.aload_n 0, 1) := by decide +kernel
theorem dX10_spells_62 : decode cX10_spells 62 = .ok (.iload 5, 2) := by decide +kernel
theorem dX10_spells_64 : decode cX10_spells 64 = .ok (.invokestatic 161, 3) := by decide +kernel
theorem dX10_spells_67 : decode cX10_spells 67 = .ok (.iload_n 1, 1) := by decide +kernel
theorem dX10_spells_68 : decode cX10_spells 68 = .ok (.iadd, 1) := by decide +kernel
theorem dX10_spells_69 : decode cX10_spells 69 = .ok (.invokestatic 52, 3) := by decide +kernel
theorem dX10_spells_72 : decode cX10_spells 72 = .ok (.invokevirtual 188, 3) := by decide +kernel
theorem dX10_spells_75 : decode cX10_spells 75 = .ok (.iastore, 1) := by decide +kernel
theorem dX10_spells_76 : decode cX10_spells 76 = .ok (.iload_n 2, 1) := by decide +kernel
theorem dX10_spells_77 : decode cX10_spells 77 = .ok (.aload_n 0, 1) := by decide +kernel
theorem dX10_spells_78 : decode cX10_spells 78 = .ok (.getfield 7, 3) := by decide +kernel
theorem dX10_spells_81 : decode cX10_spells 81 = .ok (.iload_n 3, 1) := by decide +kernel
theorem dX10_spells_82 : decode cX10_spells 82 = .ok (.invokestatic 94, 3) := by decide +kernel
theorem dX10_spells_85 : decode cX10_spells 85 = .ok (.iload 4, 2) := by decide +kernel
theorem dX10_spells_87 : decode cX10_spells 87 = .ok (.iadd, 1) := by decide +kernel
theorem dX10_spells_88 : decode cX10_spells 88 = .ok (.iaload, 1) := by decide +kernel
theorem dX10_spells_89 : decode cX10_spells 89 = .ok (.iload 5, 2) := by decide +kernel
theorem dX10_spells_91 : decode cX10_spells 91 = .ok (.if_icmp .eq 7, 3) := by decide +kernel
theorem dX10_spells_94 : decode cX10_spells 94 = .ok (.iconst 1, 1) := by decide +kernel
theorem dX10_spells_95 : decode cX10_spells 95 = .ok (.goto 4, 3) := by decide +kernel
theorem dX10_spells_98 : decode cX10_spells 98 = .ok (.iconst 0, 1) := by decide +kernel
theorem dX10_spells_99 : decode cX10_spells 99 = .ok (.iadd, 1) := by decide +kernel
theorem dX10_spells_100 : decode cX10_spells 100 = .ok (.istore_n 2, 1) := by decide +kernel
theorem dX10_spells_101 : decode cX10_spells 101 = .ok (.iinc 4 2, 3) := by decide +kernel
theorem dX10_spells_104 : decode cX10_spells 104 = .ok (.goto (-87), 3) := by decide +kernel
theorem dX10_spells_107 : decode cX10_spells 107 = .ok (.iinc 3 1, 3) := by decide +kernel
theorem dX10_spells_110 : decode cX10_spells 110 = .ok (.goto (-106), 3) := by decide +kernel
theorem dX10_spells_113 : decode cX10_spells 113 = .ok (.iload_n 2, 1) := by decide +kernel
theorem dX10_spells_114 : decode cX10_spells 114 = .ok (.ireturn, 1) := by decide +kernel
theorem dX10_transpose_0 : decode cX10_transpose 0 = .ok (.aload_n 0, 1) := by decide +kernel
theorem dX10_transpose_1 : decode cX10_transpose 1 = .ok (.iconst 0, 1) := by decide +kernel
theorem dX10_transpose_2 : decode cX10_transpose 2 = .ok (.putfield 46, 3) := by decide +kernel
theorem dX10_transpose_5 : decode cX10_transpose 5 = .ok (.iload_n 1, 1) := by decide +kernel
theorem dX10_transpose_6 : decode cX10_transpose 6 = .ok (.bipush (-11), 2) := by decide +kernel
theorem dX10_transpose_8 : decode cX10_transpose 8 = .ok (.bipush 11, 2) := by decide +kernel
theorem dX10_transpose_10 : decode cX10_transpose 10 = .ok (.invokestatic 97, 3) := by decide +kernel
theorem dX10_transpose_13 : decode cX10_transpose 13 = .ok (.ifCond .ne 9, 3) := by decide +kernel
theorem dX10_transpose_16 : decode cX10_transpose 16 = .ok (.aload_n 0, 1) := by decide +kernel
theorem dX10_transpose_17 : decode cX10_transpose 17 = .ok (.iconst 1, 1) := by decide +kernel
theorem dX10_transpose_18 : decode cX10_transpose 18 = .ok (.invokevirtual 101, 3) := by decide +kernel
theorem dX10_transpose_21 : decode cX10_transpose 21 = .ok (.ireturn, 1) := by decide +kernel
theorem dX10_transpose_22 : decode cX10_transpose 22 = .ok (.aload_n 0, 1) := by decide +kernel
theorem dX10_transpose_23 : decode cX10_transpose 23 = .ok (.invokevirtual 107, 3) := by decide +kernel
theorem dX10_transpose_26 : decode cX10_transpose 26 = .ok (.aload_n 0, 1) := by decide +kernel
theorem dX10_transpose_27 : decode cX10_transpose 27 = .ok (.getfield 7, 3) := by decide +kernel
theorem dX10_transpose_30 : decode cX10_transpose 30 = .ok (.iconst 2, 1) := by decide +kernel
theorem dX10_transpose_31 : decode cX10_transpose 31 = .ok (.iaload, 1) := by decide +kernel
theorem dX10_transpose_32 : decode cX10_transpose 32 = .ok (.invokestatic 161, 3) := by decide +kernel
theorem dX10_transpose_35 : decode cX10_transpose 35 = .ok (.iload_n 1, 1) := by decide +kernel
theorem dX10_transpose_36 : decode cX10_transpose 36 = .ok (.iadd, 1) := by decide +kernel
theorem dX10_transpose_37 : decode cX10_transpose 37 = .ok (.invokestatic 52, 3) := by decide +kernel
theorem dX10_transpose_40 : decode cX10_transpose 40 = .ok (.istore_n 2, 1) := by decide +kernel
theorem dX10_transpose_41 : decode cX10_transpose 41 = .ok (.bipush 100, 2) := by decide +kernel
theorem dX10_transpose_43 : decode cX10_transpose 43 = .ok (.istore_n 3, 1) := by decide +kernel
theorem dX10_transpose_44 : decode cX10_transpose 44 = .ok (.iconst 0, 1) := by decide +kernel
theorem dX10_transpose_45 : decode cX10_transpose 45 = .ok (.istore 4, 2) := by decide +kernel
theorem dX10_transpose_47 : decode cX10_transpose 47 = .ok (.iload 4, 2) := by decide +kernel
theorem dX10_transpose_49 : decode cX10_transpose 49 = .ok (.bipush 12, 2) := by decide +kernel
theorem dX10_transpose_51 : decode cX10_transpose 51 = .ok (.if_icmp .gt 108, 3) := by decide +kernel
theorem dX10_transpose_54 : decode cX10_transpose 54 = .ok (.iload 4, 2) := by decide +kernel
theorem dX10_transpose_56 : decode cX10_transpose 56 = .ok (.iconst 2, 1) := by decide +kernel
theorem dX10_transpose_57 : decode cX10_transpose 57 = .ok (.irem, 1) := by decide +kernel
theorem dX10_transpose_58 : decode cX10_transpose 58 = .ok (.iconst 1, 1) := by decide +kernel
theorem dX10_transpose_59 : decode cX10_transpose 59 = .ok (.if_icmp .ne 12, 3) := by decide +kernel
theorem dX10_transpose_62 : decode cX10_transpose 62 = .ok (.iload 4, 2) := by decide +kernel
theorem dX10_transpose_64 : decode cX10_transpose 64 = .ok (.iconst 2, 1) := by decide +kernel
theorem dX10_transpose_65 : decode cX10_transpose 65 = .ok (.idiv, 1) := by decide +kernel
theorem dX10_transpose_66 : decode cX10_transpose 66 = .ok (.iconst 1, 1) := by decide +kernel
theorem dX10_transpose_67 : decode cX10_transpose 67 = .ok (.iadd, 1) := by decide +kernel
theorem dX10_transpose_68 : decode cX10_transpose 68 = .ok (.goto 8, 3) := by decide +kernel
theorem dX10_transpose_71 : decode cX10_transpose 71 = .ok (.iload 4, 2) := by decide +kernel
theorem dX10_transpose_73 : decode cX10_transpose 73 = .ok (.iconst 2, 1) := by decide +kernel
theorem dX10_transpose_74 : decode cX10_transpose 74 = .ok (.idiv, 1) := by decide +kernel
theorem dX10_transpose_75 : decode cX10_transpose 75 = .ok (.ineg, 1) := by decide +kernel
theorem dX10_transpose_76 : decode cX10_transpose 76 = .ok (.istore 5, 2) := by decide +kernel
theorem dX10_transpose_78 : decode cX10_transpose 78 = .ok (.iload 5, 2) := by decide +kernel
theorem dX10_transpose_80 : decode cX10_transpose 80 = .ok (.iconst 3, 1) := by decide +kernel
theorem dX10_transpose_81 : decode cX10_transpose 81 = .ok (.aload_n 0, 1) := by decide +kernel
theorem dX10_transpose_82 : decode cX10_transpose 82 = .ok (.getfield 7, 3) := by decide +kernel
theorem dX10_transpose_85 : decode cX10_transpose 85 = .ok (.iconst 3, 1) := by decide +kernel
theorem dX10_transpose_86 : decode cX10_transpose 86 = .ok (.iaload, 1) := by decide +kernel
theorem dX10_transpose_87 : decode cX10_transpose 87 = .ok (.imul, 1) := by decide +kernel
theorem dX10_transpose_88 : decode cX10_transpose 88 = .ok (.iadd, 1) := by decide +kernel
theorem dX10_transpose_89 : decode cX10_transpose 89 = .ok (.invokestatic 161, 3) := by decide +kernel
theorem dX10_transpose_92 : decode cX10_transpose 92 = .ok (.iload_n 2, 1) := by decide +kernel
theorem dX10_transpose_93 : decode cX10_transpose 93 = .ok (.if_icmp .ne 7, 3) := by decide +kernel
theorem dX10_transpose_96 : decode cX10_transpose 96 = .ok (.iconst 1, 1) := by decide +kernel
theorem dX10_transpose_97 : decode cX10_transpose 97 = .ok (.goto 4, 3) := by decide +kernel
theorem dX10_transpose_100 : decode cX10_transpose 100 = .ok (.iconst 0, 1) := by decide +kernel
theorem dX10_transpose_101 : decode cX10_transpose 101 = .ok (.istore 6, 2) := by decide +kernel
theorem dX10_transpose_103 : decode cX10_transpose 103 = .ok (.iload_n 3, 1) := by decide +kernel
theorem dX10_transpose_104 : decode cX10_transpose 104 = .ok (.bipush 100, 2) := by decide +kernel
theorem dX10_transpose_106 : decode cX10_transpose 106 = .ok (.if_icmp .eq 23, 3) := by decide +kernel
theorem dX10_transpose_109 : decode cX10_transpose 109 = .ok (.iload 5, 2) := by decide +kernel
theorem dX10_transpose_111 : decode cX10_transpose 111 = .ok (.bipush (-6), 2) := by decide +kernel
theorem dX10_transpose_113 : decode cX10_transpose 113 = .ok (.if_icmp .ne 20, 3) := by decide +kernel
theorem dX10_transpose_116 : decode cX10_transpose 116 = .ok (.iload_n 3, 1) := by decide +kernel
theorem dX10_transpose_117 : decode cX10_transpose 117 = .ok (.bipush 6, 2) := by decide +kernel
theorem dX10_transpose_119 : decode cX10_transpose 119 = .ok (.if_icmp .ne 14, 3) := by decide +kernel
theorem dX10_transpose_122 : decode cX10_transpose 122 = .ok (.aload_n 0, 1) := by decide +kernel
theorem dX10_transpose_123 : decode cX10_transpose 123 = .ok (.getfield 114, 3) := by decide +kernel
theorem dX10_transpose_126 : decode cX10_transpose 126 = .ok (.ifCond .eq 7, 3) := by decide +kernel
theorem dX10_transpose_129 : decode cX10_transpose 129 = .ok (.iconst 1, 1) := by decide +kernel
theorem dX10_transpose_130 : decode cX10_transpose 130 = .ok (.goto 4, 3) := by decide +kernel
theorem dX10_transpose_133 : decode cX10_transpose 133 = .ok (.iconst 0, 1) := by decide +kernel
theorem dX10_transpose_134 : decode cX10_transpose 134 = .ok (.istore 7, 2) := by decide +kernel
theorem dX10_transpose_136 : decode cX10_transpose 136 = .ok (.iload 6, 2) := by decide +kernel
theorem dX10_transpose_138 : decode cX10_transpose 138 = .ok (.ifCond .eq 13, 3) := by decide +kernel
theorem dX10_transpose_141 : decode cX10_transpose 141 = .ok (.iload 7, 2) := by decide +kernel
theorem dX10_transpose_143 : decode cX10_transpose 143 = .ok (.ifCond .eq 8, 3) := by decide +kernel
theorem dX10_transpose_146 : decode cX10_transpose 146 = .ok (.iload 5, 2) := by decide +kernel
theorem dX10_transpose_148 : decode cX10_transpose 148 = .ok (.goto 4, 3) := by decide +kernel
theorem dX10_transpose_151 : decode cX10_transpose 151 = .ok (.iload_n 3, 1) := by decide +kernel
theorem dX10_transpose_152 : decode cX10_transpose 152 = .ok (.istore_n 3, 1) := by decide +kernel
theorem dX10_transpose_153 : decode cX10_transpose 153 = .ok (.iinc 4 1, 3) := by decide +kernel
theorem dX10_transpose_156 : decode cX10_transpose 156 = .ok (.goto (-109), 3) := by decide +kernel
theorem dX10_transpose_159 : decode cX10_transpose 159 = .ok (.aload_n 0, 1) := by decide +kernel
theorem dX10_transpose_160 : decode cX10_transpose 160 = .ok (.getfield 7, 3) := by decide +kernel
theorem dX10_transpose_163 : decode cX10_transpose 163 = .ok (.iconst 2, 1) := by decide +kernel
theorem dX10_transpose_164 : decode cX10_transpose 164 = .ok (.iload_n 3, 1) := by decide +kernel
theorem dX10_transpose_165 : decode cX10_transpose 165 = .ok (.iconst 3, 1) := by decide +kernel
theorem dX10_transpose_166 : decode cX10_transpose 166 = .ok (.aload_n 0, 1) := by decide +kernel
theorem dX10_transpose_167 : decode cX10_transpose 167 = .ok (.getfield 7, 3) := by decide +kernel
theorem dX10_transpose_170 : decode cX10_transpose 170 = .ok (.iconst 3, 1) := by decide +kernel
theorem dX10_transpose_171 : decode cX10_transpose 171 = .ok (.iaload, 1) := by decide +kernel
theorem dX10_transpose_172 : decode cX10_transpose 172 = .ok (.imul, 1) := by decide +kernel
theorem dX10_transpose_173 : decode cX10_transpose 173 = .ok (.iadd, 1) := by decide +kernel
theorem dX10_transpose_174 : decode cX10_transpose 174 = .ok (.iastore, 1) := by decide +kernel
theorem dX10_transpose_175 : decode cX10_transpose 175 = .ok (.aload_n 0, 1) := by decide +kernel
theorem dX10_transpose_176 : decode cX10_transpose 176 = .ok (.iload_n 1, 1) := by decide +kernel
theorem dX10_transpose_177 : decode cX10_transpose 177 = .ok (.invokevirtual 191, 3) := by decide +kernel
theorem dX10_transpose_180 : decode cX10_transpose 180 = .ok (.istore 4, 2) := by decide +kernel
theorem dX10_transpose_182 : decode cX10_transpose 182 = .ok (.iload_n 3, 1) := by decide +kernel
theorem dX10_transpose_183 : decode cX10_transpose 183 = .ok (.ireturn, 1) := by decide +kernel
theorem dX10_respell_0 : decode cX10_respell 0 = .ok (.aload_n 0, 1) := by decide +kernel
theorem dX10_respell_1 : decode cX10_respell 1 = .ok (.iconst 0, 1) := by decide +kernel
theorem dX10_respell_2 : decode cX10_respell 2 = .ok (.putfield 46, 3) := by decide +kernel
theorem dX10_respell_5 : decode cX10_respell 5 = .ok (.aload_n 0, 1) := by decide +kernel
theorem dX10_respell_6 : decode cX10_respell 6 = .ok (.invokevirtual 107, 3) := by decide +kernel
theorem dX10_respell_9 : decode cX10_respell 9 = .ok (.aload_n 0, 1) := by decide +kernel
theorem dX10_respell_10 : decode cX10_respell 10 = .ok (.iconst 0, 1) := by decide +kernel
theorem dX10_respell_11 : decode cX10_respell 11 = .ok (.invokevirtual 191, 3) := by decide +kernel
theorem dX10_respell_14 : decode cX10_respell 14 = .ok (.ireturn, 1) := by decide +kernel
theorem dX10_isEasy_0 : decode cX10_isEasy 0 = .ok (.iload_n 0, 1) := by decide +kernel
theorem dX10_isEasy_1 : decode cX10_isEasy 1 = .ok (.bipush 9, 2) := by decide +kernel
theorem dX10_isEasy_3 : decode cX10_isEasy 3 = .ok (.if_icmp .eq 13, 3) := by decide +kernel
theorem dX10_isEasy_6 : decode cX10_isEasy 6 = .ok (.iload_n 0, 1) := by decide +kernel
theorem dX10_isEasy_7 : decode cX10_isEasy 7 = .ok (.iconst 2, 1) := by decide +kernel
theorem dX10_isEasy_8 : decode cX10_isEasy 8 = .ok (.if_icmp .eq 8, 3) := by decide +kernel
theorem dX10_isEasy_11 : decode cX10_isEasy 11 = .ok (.iload_n 0, 1) := by decide +kernel
theorem dX10_isEasy_12 : decode cX10_isEasy 12 = .ok (.iconst 4, 1) := by decide +kernel
theorem dX10_isEasy_13 : decode cX10_isEasy 13 = .ok (.if_icmp .ne 7, 3) := by decide +kernel
theorem dX10_isEasy_16 : decode cX10_isEasy 16 = .ok (.iconst 1, 1) := by decide +kernel
theorem dX10_isEasy_17 : decode cX10_isEasy 17 = .ok (.goto 4, 3) := by decide +kernel
theorem dX10_isEasy_20 : decode cX10_isEasy 20 = .ok (.iconst 0, 1) := by decide +kernel
theorem dX10_isEasy_21 : decode cX10_isEasy 21 = .ok (.istore_n 2, 1) := by decide +kernel
theorem dX10_isEasy_22 : decode cX10_isEasy 22 = .ok (.iload_n 1, 1) := by decide +kernel
theorem dX10_isEasy_23 : decode cX10_isEasy 23 = .ok (.iconst 1, 1) := by decide +kernel
theorem dX10_isEasy_24 : decode cX10_isEasy 24 = .ok (.if_icmp .eq 8, 3) := by decide +kernel
theorem dX10_isEasy_27 : decode cX10_isEasy 27 = .ok (.iload_n 1, 1) := by decide +kernel
theorem dX10_isEasy_28 : decode cX10_isEasy 28 = .ok (.iconst 3, 1) := by decide +kernel
theorem dX10_isEasy_29 : decode cX10_isEasy 29 = .ok (.if_icmp .ne 5, 3) := by decide +kernel
theorem dX10_isEasy_32 : decode cX10_isEasy 32 = .ok (.iload_n 2, 1) := by decide +kernel
theorem dX10_isEasy_33 : decode cX10_isEasy 33 = .ok (.ireturn, 1) := by decide +kernel
theorem dX10_isEasy_34 : decode cX10_isEasy 34 = .ok (.iload_n 1, 1) := by decide +kernel
theorem dX10_isEasy_35 : decode cX10_isEasy 35 = .ok (.ifCond .ne 17, 3) := by decide +kernel
theorem dX10_isEasy_38 : decode cX10_isEasy 38 = .ok (.iload_n 2, 1) := by decide +kernel
theorem dX10_isEasy_39 : decode cX10_isEasy 39 = .ok (.ifCond .ne 38, 3) := by decide +kernel
theorem dX10_isEasy_42 : decode cX10_isEasy 42 = .ok (.iload_n 0, 1) := by decide +kernel
theorem dX10_isEasy_43 : decode cX10_isEasy 43 = .ok (.ifCond .eq 34, 3) := by decide +kernel
theorem dX10_isEasy_46 : decode cX10_isEasy 46 = .ok (.iload_n 0, 1) := by decide +kernel
theorem dX10_isEasy_47 : decode cX10_isEasy 47 = .ok (.bipush 7, 2) := by decide +kernel
theorem dX10_isEasy_49 : decode cX10_isEasy 49 = .ok (.if_icmp .eq 28, 3) := by decide +kernel
theorem dX10_isEasy_52 : decode cX10_isEasy 52 = .ok (.iload_n 1, 1) := by decide +kernel
theorem dX10_isEasy_53 : decode cX10_isEasy 53 = .ok (.iconst 2, 1) := by decide +kernel
theorem dX10_isEasy_54 : decode cX10_isEasy 54 = .ok (.if_icmp .ne 27, 3) := by decide +kernel
theorem dX10_isEasy_57 : decode cX10_isEasy 57 = .ok (.iload_n 2, 1) := by decide +kernel
theorem dX10_isEasy_58 : decode cX10_isEasy 58 = .ok (.ifCond .ne 19, 3) := by decide +kernel
theorem dX10_isEasy_61 : decode cX10_isEasy 61 = .ok (.iload_n 0, 1) := by decide +kernel
theorem dX10_isEasy_62 : decode cX10_isEasy 62 = .ok (.ifCond .eq 15, 3) := by decide +kernel
theorem dX10_isEasy_65 : decode cX10_isEasy 65 = .ok (.iload_n 0, 1) := by decide +kernel
theorem dX10_isEasy_66 : decode cX10_isEasy 66 = .ok (.bipush 7, 2) := by decide +kernel
theorem dX10_isEasy_68 : decode cX10_isEasy 68 = .ok (.if_icmp .eq 9, 3) := by decide +kernel
theorem dX10_isEasy_71 : decode cX10_isEasy 71 = .ok (.iload_n 0, 1) := by decide +kernel
theorem dX10_isEasy_72 : decode cX10_isEasy 72 = .ok (.bipush 11, 2) := by decide +kernel
theorem dX10_isEasy_74 : decode cX10_isEasy 74 = .ok (.if_icmp .ne 7, 3) := by decide +kernel
theorem dX10_isEasy_77 : decode cX10_isEasy 77 = .ok (.iconst 1, 1) := by decide +kernel
theorem dX10_isEasy_78 : decode cX10_isEasy 78 = .ok (.goto 4, 3) := by decide +kernel
theorem dX10_isEasy_81 : decode cX10_isEasy 81 = .ok (.iconst 0, 1) := by decide +kernel
theorem dX10_isEasy_82 : decode cX10_isEasy 82 = .ok (.ireturn, 1) := by decide +kernel
theorem dX10_difficultyOf_0 : decode cX10_difficultyOf 0 = .ok (.iload_n 1, 1) := by decide +kernel
theorem dX10_difficultyOf_1 : decode cX10_difficultyOf 1 = .ok (.istore_n 2, 1) := by decide +kernel
theorem dX10_difficultyOf_2 : decode cX10_difficultyOf 2 = .ok (.iconst 0, 1) := by decide +kernel
theorem dX10_difficultyOf_3 : decode cX10_difficultyOf 3 = .ok (.istore_n 3, 1) := by decide +kernel
theorem dX10_difficultyOf_4 : decode cX10_difficultyOf 4 = .ok (.iconst (-1), 1) := by decide +kernel
theorem dX10_difficultyOf_5 : decode cX10_difficultyOf 5 = .ok (.istore 4, 2) := by decide +kernel
theorem dX10_difficultyOf_7 : decode cX10_difficultyOf 7 = .ok (.iconst 0, 1) := by decide +kernel
theorem dX10_difficultyOf_8 : decode cX10_difficultyOf 8 = .ok (.istore 5, 2) := by decide +kernel
theorem dX10_difficultyOf_10 : decode cX10_difficultyOf 10 = .ok (.iload 5, 2) := by decide +kernel
theorem dX10_difficultyOf_12 : decode cX10_difficultyOf 12 = .ok (.aload_n 0, 1) := by decide +kernel
theorem dX10_difficultyOf_13 : decode cX10_difficultyOf 13 = .ok (.getfield 7, 3) := by decide +kernel
theorem dX10_difficultyOf_16 : decode cX10_difficultyOf 16 = .ok (.iconst 1, 1) := by decide +kernel
theorem dX10_difficultyOf_17 : decode cX10_difficultyOf 17 = .ok (.iaload, 1) := by decide +kernel
theorem dX10_difficultyOf_18 : decode cX10_difficultyOf 18 = .ok (.if_icmp .ge 176, 3) := by decide +kernel
theorem dX10_difficultyOf_21 : decode cX10_difficultyOf 21 = .ok (.iload 5, 2) := by decide +kernel
theorem dX10_difficultyOf_23 : decode cX10_difficultyOf 23 = .ok (.invokestatic 94, 3) := by decide +kernel
theorem dX10_difficultyOf_26 : decode cX10_difficultyOf 26 = .ok (.istore 6, 2) := by decide +kernel
theorem dX10_difficultyOf_28 : decode cX10_difficultyOf 28 = .ok (.aload_n 0, 1) := by decide +kernel
theorem dX10_difficultyOf_29 : decode cX10_difficultyOf 29 = .ok (.getfield 7, 3) := by decide +kernel
theorem dX10_difficultyOf_32 : decode cX10_difficultyOf 32 = .ok (.iload 6, 2) := by decide +kernel
theorem dX10_difficultyOf_34 : decode cX10_difficultyOf 34 = .ok (.iconst 2, 1) := by decide +kernel
theorem dX10_difficultyOf_35 : decode cX10_difficultyOf 35 = .ok (.iadd, 1) := by decide +kernel
theorem dX10_difficultyOf_36 : decode cX10_difficultyOf 36 = .ok (.iaload, 1) := by decide +kernel
theorem dX10_difficultyOf_37 : decode cX10_difficultyOf 37 = .ok (.invokestatic 161, 3) := by decide +kernel
theorem dX10_difficultyOf_40 : decode cX10_difficultyOf 40 = .ok (.iload_n 1, 1) := by decide +kernel
theorem dX10_difficultyOf_41 : decode cX10_difficultyOf 41 = .ok (.isub, 1) := by decide +kernel
theorem dX10_difficultyOf_42 : decode cX10_difficultyOf 42 = .ok (.invokestatic 52, 3) := by decide +kernel
theorem dX10_difficultyOf_45 : decode cX10_difficultyOf 45 = .ok (.istore 7, 2) := by decide +kernel
theorem dX10_difficultyOf_47 : decode cX10_difficultyOf 47 = .ok (.iload 7, 2) := by decide +kernel
theorem dX10_difficultyOf_49 : decode cX10_difficultyOf 49 = .ok (.aload_n 0, 1) := by decide +kernel
theorem dX10_difficultyOf_50 : decode cX10_difficultyOf 50 = .ok (.getfield 7, 3) := by decide +kernel
theorem dX10_difficultyOf_53 : decode cX10_difficultyOf 53 = .ok (.iload 6, 2) := by decide +kernel
theorem dX10_difficultyOf_55 : decode cX10_difficultyOf 55 = .ok (.iconst 3, 1) := by decide +kernel
theorem dX10_difficultyOf_56 : decode cX10_difficultyOf 56 = .ok (.iadd, 1) := by decide +kernel
theorem dX10_difficultyOf_57 : decode cX10_difficultyOf 57 = .ok (.iaload, 1) := by decide +kernel
theorem dX10_difficultyOf_58 : decode cX10_difficultyOf 58 = .ok (.invokestatic 194, 3) := by decide +kernel
theorem dX10_difficultyOf_61 : decode cX10_difficultyOf 61 = .ok (.ifCond .ne 7, 3) := by decide +kernel
theorem dX10_difficultyOf_64 : decode cX10_difficultyOf 64 = .ok (.iconst 1, 1) := by decide +kernel
theorem dX10_difficultyOf_65 : decode cX10_difficultyOf 65 = .ok (.goto 4, 3) := by decide +kernel
theorem dX10_difficultyOf_68 : decode cX10_difficultyOf 68 = .ok (.iconst 0, 1) := by decide +kernel
theorem dX10_difficultyOf_69 : decode cX10_difficultyOf 69 = .ok (.istore 8, 2) := by decide +kernel
theorem dX10_difficultyOf_71 : decode cX10_difficultyOf 71 = .ok (.iload_n 2, 1) := by decide +kernel
theorem dX10_difficultyOf_72 : decode cX10_difficultyOf 72 = .ok (.iload 8, 2) := by decide +kernel
theorem dX10_difficultyOf_74 : decode cX10_difficultyOf 74 = .ok (.ifCond .eq 7, 3) := by decide +kernel
theorem dX10_difficultyOf_77 : decode cX10_difficultyOf 77 = .ok (.iconst 4, 1) := by decide +kernel
theorem dX10_difficultyOf_78 : decode cX10_difficultyOf 78 = .ok (.goto 4, 3) := by decide +kernel
theorem dX10_difficultyOf_81 : decode cX10_difficultyOf 81 = .ok (.iconst 1, 1) := by decide +kernel
theorem dX10_difficultyOf_82 : decode cX10_difficultyOf 82 = .ok (.aload_n 0, 1) := by decide +kernel
theorem dX10_difficultyOf_83 : decode cX10_difficultyOf 83 = .ok (.getfield 7, 3) := by decide +kernel
theorem dX10_difficultyOf_86 : decode cX10_difficultyOf 86 = .ok (.iload 6, 2) := by decide +kernel
theorem dX10_difficultyOf_88 : decode cX10_difficultyOf 88 = .ok (.iconst 3, 1) := by decide +kernel
theorem dX10_difficultyOf_89 : decode cX10_difficultyOf 89 = .ok (.iadd, 1) := by decide +kernel
theorem dX10_difficultyOf_90 : decode cX10_difficultyOf 90 = .ok (.iaload, 1) := by decide +kernel
theorem dX10_difficultyOf_91 : decode cX10_difficultyOf 91 = .ok (.iconst 3, 1) := by decide +kernel
theorem dX10_difficultyOf_92 : decode cX10_difficultyOf 92 = .ok (.if_icmp .le 7, 3) := by decide +kernel
theorem dX10_difficultyOf_95 : decode cX10_difficultyOf 95 = .ok (.iconst 1, 1) := by decide +kernel
theorem dX10_difficultyOf_96 : decode cX10_difficultyOf 96 = .ok (.goto 4, 3) := by decide +kernel
theorem dX10_difficultyOf_99 : decode cX10_difficultyOf 99 = .ok (.iconst 0, 1) := by decide +kernel
theorem dX10_difficultyOf_100 : decode cX10_difficultyOf 100 = .ok (.iadd, 1) := by decide +kernel
theorem dX10_difficultyOf_101 : decode cX10_difficultyOf 101 = .ok (.iadd, 1) := by decide +kernel
theorem dX10_difficultyOf_102 : decode cX10_difficultyOf 102 = .ok (.istore_n 2, 1) := by decide +kernel
theorem dX10_difficultyOf_103 : decode cX10_difficultyOf 103 = .ok (.iload_n 2, 1) := by decide +kernel
theorem dX10_difficultyOf_104 : decode cX10_difficultyOf 104 = .ok (.aload_n 0, 1) := by decide +kernel
theorem dX10_difficultyOf_105 : decode cX10_difficultyOf 105 = .ok (.getfield 7, 3) := by decide +kernel
theorem dX10_difficultyOf_108 : decode cX10_difficultyOf 108 = .ok (.iload 6, 2) := by decide +kernel
theorem dX10_difficultyOf_110 : decode cX10_difficultyOf 110 = .ok (.iconst 4, 1) := by decide +kernel
theorem dX10_difficultyOf_111 : decode cX10_difficultyOf 111 = .ok (.iadd, 1) := by decide +kernel
theorem dX10_difficultyOf_112 : decode cX10_difficultyOf 112 = .ok (.iaload, 1) := by decide +kernel
theorem dX10_difficultyOf_113 : decode cX10_difficultyOf 113 = .ok (.bipush 100, 2) := by decide +kernel
theorem dX10_difficultyOf_115 : decode cX10_difficultyOf 115 = .ok (.if_icmp .eq 34, 3) := by decide +kernel
theorem dX10_difficultyOf_118 : decode cX10_difficultyOf 118 = .ok (.aload_n 0, 1) := by decide +kernel
theorem dX10_difficultyOf_119 : decode cX10_difficultyOf 119 = .ok (.getfield 7, 3) := by decide +kernel
theorem dX10_difficultyOf_122 : decode cX10_difficultyOf 122 = .ok (.iload 6, 2) := by decide +kernel
theorem dX10_difficultyOf_124 : decode cX10_difficultyOf 124 = .ok (.iconst 4, 1) := by decide +kernel
theorem dX10_difficultyOf_125 : decode cX10_difficultyOf 125 = .ok (.iadd, 1) := by decide +kernel
theorem dX10_difficultyOf_126 : decode cX10_difficultyOf 126 = .ok (.iaload, 1) := by decide +kernel
theorem dX10_difficultyOf_127 : decode cX10_difficultyOf 127 = .ok (.invokestatic 161, 3) := by decide +kernel
theorem dX10_difficultyOf_130 : decode cX10_difficultyOf 130 = .ok (.aload_n 0, 1) := by decide +kernel
theorem dX10_difficultyOf_131 : decode cX10_difficultyOf 131 = .ok (.getfield 7, 3) := by decide +kernel
theorem dX10_difficultyOf_134 : decode cX10_difficultyOf 134 = .ok (.iload 6, 2) := by decide +kernel
theorem dX10_difficultyOf_136 : decode cX10_difficultyOf 136 = .ok (.iconst 2, 1) := by decide +kernel
theorem dX10_difficultyOf_137 : decode cX10_difficultyOf 137 = .ok (.iadd, 1) := by decide +kernel
theorem dX10_difficultyOf_138 : decode cX10_difficultyOf 138 = .ok (.iaload, 1) := by decide +kernel
theorem dX10_difficultyOf_139 : decode cX10_difficultyOf 139 = .ok (.invokestatic 161, 3) := by decide +kernel
theorem dX10_difficultyOf_142 : decode cX10_difficultyOf 142 = .ok (.if_icmp .eq 7, 3) := by decide +kernel
theorem dX10_difficultyOf_145 : decode cX10_difficultyOf 145 = .ok (.iconst 1, 1) := by decide +kernel
theorem dX10_difficultyOf_146 : decode cX10_difficultyOf 146 = .ok (.goto 4, 3) := by decide +kernel
theorem dX10_difficultyOf_149 : decode cX10_difficultyOf 149 = .ok (.iconst 0, 1) := by decide +kernel
theorem dX10_difficultyOf_150 : decode cX10_difficultyOf 150 = .ok (.iadd, 1) := by decide +kernel
theorem dX10_difficultyOf_151 : decode cX10_difficultyOf 151 = .ok (.istore_n 2, 1) := by decide +kernel
theorem dX10_difficultyOf_152 : decode cX10_difficultyOf 152 = .ok (.iload_n 2, 1) := by decide +kernel
theorem dX10_difficultyOf_153 : decode cX10_difficultyOf 153 = .ok (.iload 5, 2) := by decide +kernel
theorem dX10_difficultyOf_155 : decode cX10_difficultyOf 155 = .ok (.ifCond .le 23, 3) := by decide +kernel
theorem dX10_difficultyOf_158 : decode cX10_difficultyOf 158 = .ok (.iload 8, 2) := by decide +kernel
theorem dX10_difficultyOf_160 : decode cX10_difficultyOf 160 = .ok (.ifCond .eq 18, 3) := by decide +kernel
theorem dX10_difficultyOf_163 : decode cX10_difficultyOf 163 = .ok (.iload_n 3, 1) := by decide +kernel
theorem dX10_difficultyOf_164 : decode cX10_difficultyOf 164 = .ok (.ifCond .eq 14, 3) := by decide +kernel
theorem dX10_difficultyOf_167 : decode cX10_difficultyOf 167 = .ok (.iload 7, 2) := by decide +kernel
theorem dX10_difficultyOf_169 : decode cX10_difficultyOf 169 = .ok (.iload 4, 2) := by decide +kernel
theorem dX10_difficultyOf_171 : decode cX10_difficultyOf 171 = .ok (.if_icmp .eq 7, 3) := by decide +kernel
theorem dX10_difficultyOf_174 : decode cX10_difficultyOf 174 = .ok (.iconst 1, 1) := by decide +kernel
theorem dX10_difficultyOf_175 : decode cX10_difficultyOf 175 = .ok (.goto 4, 3) := by decide +kernel
theorem dX10_difficultyOf_178 : decode cX10_difficultyOf 178 = .ok (.iconst 0, 1) := by decide +kernel
theorem dX10_difficultyOf_179 : decode cX10_difficultyOf 179 = .ok (.iadd, 1) := by decide +kernel
theorem dX10_difficultyOf_180 : decode cX10_difficultyOf 180 = .ok (.istore_n 2, 1) := by decide +kernel
theorem dX10_difficultyOf_181 : decode cX10_difficultyOf 181 = .ok (.iload 8, 2) := by decide +kernel
theorem dX10_difficultyOf_183 : decode cX10_difficultyOf 183 = .ok (.istore_n 3, 1) := by decide +kernel
theorem dX10_difficultyOf_184 : decode cX10_difficultyOf 184 = .ok (.iload 7, 2) := by decide +kernel
theorem dX10_difficultyOf_186 : decode cX10_difficultyOf 186 = .ok (.istore 4, 2) := by decide +kernel
theorem dX10_difficultyOf_188 : decode cX10_difficultyOf 188 = .ok (.iinc 5 1, 3) := by decide +kernel
theorem dX10_difficultyOf_191 : decode cX10_difficultyOf 191 = .ok (.goto (-181), 3) := by decide +kernel
theorem dX10_difficultyOf_194 : decode cX10_difficultyOf 194 = .ok (.iload_n 2, 1) := by decide +kernel
theorem dX10_difficultyOf_195 : decode cX10_difficultyOf 195 = .ok (.ireturn, 1) := by decide +kernel
theorem dX10_difficulty_0 : decode cX10_difficulty 0 = .ok (.aload_n 0, 1) := by decide +kernel
theorem dX10_difficulty_1 : decode cX10_difficulty 1 = .ok (.iconst 0, 1) := by decide +kernel
theorem dX10_difficulty_2 : decode cX10_difficulty 2 = .ok (.putfield 46, 3) := by decide +kernel
theorem dX10_difficulty_5 : decode cX10_difficulty 5 = .ok (.iload_n 1, 1) := by decide +kernel
theorem dX10_difficulty_6 : decode cX10_difficulty 6 = .ok (.iconst 0, 1) := by decide +kernel
theorem dX10_difficulty_7 : decode cX10_difficulty 7 = .ok (.bipush 7, 2) := by decide +kernel
theorem dX10_difficulty_9 : decode cX10_difficulty 9 = .ok (.invokestatic 97, 3) := by decide +kernel
theorem dX10_difficulty_12 : decode cX10_difficulty 12 = .ok (.ifCond .eq 11, 3) := by decide +kernel
theorem dX10_difficulty_15 : decode cX10_difficulty 15 = .ok (.aload_n 0, 1) := by decide +kernel
theorem dX10_difficulty_16 : decode cX10_difficulty 16 = .ok (.iload_n 1, 1) := by decide +kernel
theorem dX10_difficulty_17 : decode cX10_difficulty 17 = .ok (.invokevirtual 197, 3) := by decide +kernel
theorem dX10_difficulty_20 : decode cX10_difficulty 20 = .ok (.goto 8, 3) := by decide +kernel
theorem dX10_difficulty_23 : decode cX10_difficulty 23 = .ok (.aload_n 0, 1) := by decide +kernel
theorem dX10_difficulty_24 : decode cX10_difficulty 24 = .ok (.iconst 1, 1) := by decide +kernel
theorem dX10_difficulty_25 : decode cX10_difficulty 25 = .ok (.invokevirtual 101, 3) := by decide +kernel
theorem dX10_difficulty_28 : decode cX10_difficulty 28 = .ok (.ireturn, 1) := by decide +kernel
theorem dX10_bestCapo_0 : decode cX10_bestCapo 0 = .ok (.aload_n 0, 1) := by decide +kernel
theorem dX10_bestCapo_1 : decode cX10_bestCapo 1 = .ok (.iconst 0, 1) := by decide +kernel
theorem dX10_bestCapo_2 : decode cX10_bestCapo 2 = .ok (.putfield 46, 3) := by decide +kernel
theorem dX10_bestCapo_5 : decode cX10_bestCapo 5 = .ok (.iconst 0, 1) := by decide +kernel
theorem dX10_bestCapo_6 : decode cX10_bestCapo 6 = .ok (.istore_n 1, 1) := by decide +kernel
theorem dX10_bestCapo_7 : decode cX10_bestCapo 7 = .ok (.iconst 1, 1) := by decide +kernel
theorem dX10_bestCapo_8 : decode cX10_bestCapo 8 = .ok (.istore_n 2, 1) := by decide +kernel
theorem dX10_bestCapo_9 : decode cX10_bestCapo 9 = .ok (.iload_n 2, 1) := by decide +kernel
theorem dX10_bestCapo_10 : decode cX10_bestCapo 10 = .ok (.bipush 7, 2) := by decide +kernel
theorem dX10_bestCapo_12 : decode cX10_bestCapo 12 = .ok (.if_icmp .gt 28, 3) := by decide +kernel
theorem dX10_bestCapo_15 : decode cX10_bestCapo 15 = .ok (.aload_n 0, 1) := by decide +kernel
theorem dX10_bestCapo_16 : decode cX10_bestCapo 16 = .ok (.iload_n 2, 1) := by decide +kernel
theorem dX10_bestCapo_17 : decode cX10_bestCapo 17 = .ok (.invokevirtual 197, 3) := by decide +kernel
theorem dX10_bestCapo_20 : decode cX10_bestCapo 20 = .ok (.aload_n 0, 1) := by decide +kernel
theorem dX10_bestCapo_21 : decode cX10_bestCapo 21 = .ok (.iload_n 1, 1) := by decide +kernel
theorem dX10_bestCapo_22 : decode cX10_bestCapo 22 = .ok (.invokevirtual 197, 3) := by decide +kernel
theorem dX10_bestCapo_25 : decode cX10_bestCapo 25 = .ok (.if_icmp .ge 7, 3) := by decide +kernel
theorem dX10_bestCapo_28 : decode cX10_bestCapo 28 = .ok (.iload_n 2, 1) := by decide +kernel
theorem dX10_bestCapo_29 : decode cX10_bestCapo 29 = .ok (.goto 4, 3) := by decide +kernel
theorem dX10_bestCapo_32 : decode cX10_bestCapo 32 = .ok (.iload_n 1, 1) := by decide +kernel
theorem dX10_bestCapo_33 : decode cX10_bestCapo 33 = .ok (.istore_n 1, 1) := by decide +kernel
theorem dX10_bestCapo_34 : decode cX10_bestCapo 34 = .ok (.iinc 2 1, 3) := by decide +kernel
theorem dX10_bestCapo_37 : decode cX10_bestCapo 37 = .ok (.goto (-28), 3) := by decide +kernel
theorem dX10_bestCapo_40 : decode cX10_bestCapo 40 = .ok (.iload_n 1, 1) := by decide +kernel
theorem dX10_bestCapo_41 : decode cX10_bestCapo 41 = .ok (.ireturn, 1) := by decide +kernel
theorem dX10_laysChords_0 : decode cX10_laysChords 0 = .ok (.aload_n 0, 1) := by decide +kernel
theorem dX10_laysChords_1 : decode cX10_laysChords 1 = .ok (.iload_n 1, 1) := by decide +kernel
theorem dX10_laysChords_2 : decode cX10_laysChords 2 = .ok (.invokevirtual 120, 3) := by decide +kernel
theorem dX10_laysChords_5 : decode cX10_laysChords 5 = .ok (.istore_n 3, 1) := by decide +kernel
theorem dX10_laysChords_6 : decode cX10_laysChords 6 = .ok (.iload_n 2, 1) := by decide +kernel
theorem dX10_laysChords_7 : decode cX10_laysChords 7 = .ok (.ifCond .le 36, 3) := by decide +kernel
theorem dX10_laysChords_10 : decode cX10_laysChords 10 = .ok (.iload_n 2, 1) := by decide +kernel
theorem dX10_laysChords_11 : decode cX10_laysChords 11 = .ok (.iload_n 3, 1) := by decide +kernel
theorem dX10_laysChords_12 : decode cX10_laysChords 12 = .ok (.if_icmp .ge 31, 3) := by decide +kernel
theorem dX10_laysChords_15 : decode cX10_laysChords 15 = .ok (.aload_n 0, 1) := by decide +kernel
theorem dX10_laysChords_16 : decode cX10_laysChords 16 = .ok (.iload_n 1, 1) := by decide +kernel
theorem dX10_laysChords_17 : decode cX10_laysChords 17 = .ok (.iload_n 2, 1) := by decide +kernel
theorem dX10_laysChords_18 : decode cX10_laysChords 18 = .ok (.iconst 1, 1) := by decide +kernel
theorem dX10_laysChords_19 : decode cX10_laysChords 19 = .ok (.isub, 1) := by decide +kernel
theorem dX10_laysChords_20 : decode cX10_laysChords 20 = .ok (.invokevirtual 123, 3) := by decide +kernel
theorem dX10_laysChords_23 : decode cX10_laysChords 23 = .ok (.bipush 32, 2) := by decide +kernel
theorem dX10_laysChords_25 : decode cX10_laysChords 25 = .ok (.if_icmp .eq 18, 3) := by decide +kernel
theorem dX10_laysChords_28 : decode cX10_laysChords 28 = .ok (.aload_n 0, 1) := by decide +kernel
theorem dX10_laysChords_29 : decode cX10_laysChords 29 = .ok (.iload_n 1, 1) := by decide +kernel
theorem dX10_laysChords_30 : decode cX10_laysChords 30 = .ok (.iload_n 2, 1) := by decide +kernel
theorem dX10_laysChords_31 : decode cX10_laysChords 31 = .ok (.invokevirtual 123, 3) := by decide +kernel
theorem dX10_laysChords_34 : decode cX10_laysChords 34 = .ok (.bipush 32, 2) := by decide +kernel
theorem dX10_laysChords_36 : decode cX10_laysChords 36 = .ok (.if_icmp .eq 7, 3) := by decide +kernel
theorem dX10_laysChords_39 : decode cX10_laysChords 39 = .ok (.iconst 1, 1) := by decide +kernel
theorem dX10_laysChords_40 : decode cX10_laysChords 40 = .ok (.goto 4, 3) := by decide +kernel
theorem dX10_laysChords_43 : decode cX10_laysChords 43 = .ok (.iconst 0, 1) := by decide +kernel
theorem dX10_laysChords_44 : decode cX10_laysChords 44 = .ok (.istore 4, 2) := by decide +kernel
theorem dX10_laysChords_46 : decode cX10_laysChords 46 = .ok (.iconst 0, 1) := by decide +kernel
theorem dX10_laysChords_47 : decode cX10_laysChords 47 = .ok (.istore 5, 2) := by decide +kernel
theorem dX10_laysChords_49 : decode cX10_laysChords 49 = .ok (.iload 5, 2) := by decide +kernel
theorem dX10_laysChords_51 : decode cX10_laysChords 51 = .ok (.aload_n 0, 1) := by decide +kernel
theorem dX10_laysChords_52 : decode cX10_laysChords 52 = .ok (.getfield 7, 3) := by decide +kernel
theorem dX10_laysChords_55 : decode cX10_laysChords 55 = .ok (.iconst 1, 1) := by decide +kernel
theorem dX10_laysChords_56 : decode cX10_laysChords 56 = .ok (.iaload, 1) := by decide +kernel
theorem dX10_laysChords_57 : decode cX10_laysChords 57 = .ok (.if_icmp .ge 180, 3) := by decide +kernel
theorem dX10_laysChords_60 : decode cX10_laysChords 60 = .ok (.aload_n 0, 1) := by decide +kernel
theorem dX10_laysChords_61 : decode cX10_laysChords 61 = .ok (.getfield 7, 3) := by decide +kernel
theorem dX10_laysChords_64 : decode cX10_laysChords 64 = .ok (.iload 5, 2) := by decide +kernel
theorem dX10_laysChords_66 : decode cX10_laysChords 66 = .ok (.invokestatic 94, 3) := by decide +kernel
theorem dX10_laysChords_69 : decode cX10_laysChords 69 = .ok (.iconst 0, 1) := by decide +kernel
theorem dX10_laysChords_70 : decode cX10_laysChords 70 = .ok (.iadd, 1) := by decide +kernel
theorem dX10_laysChords_71 : decode cX10_laysChords 71 = .ok (.iaload, 1) := by decide +kernel
theorem dX10_laysChords_72 : decode cX10_laysChords 72 = .ok (.iload_n 1, 1) := by decide +kernel
theorem dX10_laysChords_73 : decode cX10_laysChords 73 = .ok (.if_icmp .ne 158, 3) := by decide +kernel
theorem dX10_laysChords_76 : decode cX10_laysChords 76 = .ok (.aload_n 0, 1) := by decide +kernel
theorem dX10_laysChords_77 : decode cX10_laysChords 77 = .ok (.getfield 7, 3) := by decide +kernel
theorem dX10_laysChords_80 : decode cX10_laysChords 80 = .ok (.iload 5, 2) := by decide +kernel
theorem dX10_laysChords_82 : decode cX10_laysChords 82 = .ok (.invokestatic 94, 3) := by decide +kernel
theorem dX10_laysChords_85 : decode cX10_laysChords 85 = .ok (.iconst 1, 1) := by decide +kernel
theorem dX10_laysChords_86 : decode cX10_laysChords 86 = .ok (.iadd, 1) := by decide +kernel
theorem dX10_laysChords_87 : decode cX10_laysChords 87 = .ok (.iaload, 1) := by decide +kernel
theorem dX10_laysChords_88 : decode cX10_laysChords 88 = .ok (.iload_n 2, 1) := by decide +kernel
theorem dX10_laysChords_89 : decode cX10_laysChords 89 = .ok (.if_icmp .ne 142, 3) := by decide +kernel
theorem dX10_laysChords_92 : decode cX10_laysChords 92 = .ok (.aload_n 0, 1) := by decide +kernel
theorem dX10_laysChords_93 : decode cX10_laysChords 93 = .ok (.getfield 200, 3) := by decide +kernel
theorem dX10_laysChords_96 : decode cX10_laysChords 96 = .ok (.ifCond .le 50, 3) := by decide +kernel
theorem dX10_laysChords_99 : decode cX10_laysChords 99 = .ok (.aload_n 0, 1) := by decide +kernel
theorem dX10_laysChords_100 : decode cX10_laysChords 100 = .ok (.getfield 203, 3) := by decide +kernel
theorem dX10_laysChords_103 : decode cX10_laysChords 103 = .ok (.aload_n 0, 1) := by decide +kernel
theorem dX10_laysChords_104 : decode cX10_laysChords 104 = .ok (.getfield 200, 3) := by decide +kernel
theorem dX10_laysChords_107 : decode cX10_laysChords 107 = .ok (.iconst 1, 1) := by decide +kernel
theorem dX10_laysChords_108 : decode cX10_laysChords 108 = .ok (.iadd, 1) := by decide +kernel
theorem dX10_laysChords_109 : decode cX10_laysChords 109 = .ok (.if_icmp .ge 37, 3) := by decide +kernel
theorem dX10_laysChords_112 : decode cX10_laysChords 112 = .ok (.aload_n 0, 1) := by decide +kernel
theorem dX10_laysChords_113 : decode cX10_laysChords 113 = .ok (.getfield 43, 3) := by decide +kernel
theorem dX10_laysChords_116 : decode cX10_laysChords 116 = .ok (.aload_n 0, 1) := by decide +kernel
theorem dX10_laysChords_117 : decode cX10_laysChords 117 = .ok (.getfield 203, 3) := by decide +kernel
theorem dX10_laysChords_120 : decode cX10_laysChords 120 = .ok (.iload 4, 2) := by decide +kernel
theorem dX10_laysChords_122 : decode cX10_laysChords 122 = .ok (.ifCond .eq 8, 3) := by decide +kernel
theorem dX10_laysChords_125 : decode cX10_laysChords 125 = .ok (.bipush 45, 2) := by decide +kernel
theorem dX10_laysChords_127 : decode cX10_laysChords 127 = .ok (.goto 5, 3) := by decide +kernel
theorem dX10_laysChords_130 : decode cX10_laysChords 130 = .ok (.bipush 32, 2) := by decide +kernel
theorem dX10_laysChords_132 : decode cX10_laysChords 132 = .ok (.iastore, 1) := by decide +kernel
theorem dX10_laysChords_133 : decode cX10_laysChords 133 = .ok (.aload_n 0, 1) := by decide +kernel
theorem dX10_laysChords_134 : decode cX10_laysChords 134 = .ok (.dup, 1) := by decide +kernel
theorem dX10_laysChords_135 : decode cX10_laysChords 135 = .ok (.getfield 203, 3) := by decide +kernel
theorem dX10_laysChords_138 : decode cX10_laysChords 138 = .ok (.iconst 1, 1) := by decide +kernel
theorem dX10_laysChords_139 : decode cX10_laysChords 139 = .ok (.iadd, 1) := by decide +kernel
theorem dX10_laysChords_140 : decode cX10_laysChords 140 = .ok (.putfield 203, 3) := by decide +kernel
theorem dX10_laysChords_143 : decode cX10_laysChords 143 = .ok (.goto (-51), 3) := by decide +kernel
theorem dX10_laysChords_146 : decode cX10_laysChords 146 = .ok (.aload_n 0, 1) := by decide +kernel
theorem dX10_laysChords_147 : decode cX10_laysChords 147 = .ok (.getfield 200, 3) := by decide +kernel
theorem dX10_laysChords_150 : decode cX10_laysChords 150 = .ok (.aload_n 0, 1) := by decide +kernel
theorem dX10_laysChords_151 : decode cX10_laysChords 151 = .ok (.getfield 203, 3) := by decide +kernel
theorem dX10_laysChords_154 : decode cX10_laysChords 154 = .ok (.if_icmp .ge 27, 3) := by decide +kernel
theorem dX10_laysChords_157 : decode cX10_laysChords 157 = .ok (.aload_n 0, 1) := by decide +kernel
theorem dX10_laysChords_158 : decode cX10_laysChords 158 = .ok (.getfield 40, 3) := by decide +kernel
theorem dX10_laysChords_161 : decode cX10_laysChords 161 = .ok (.aload_n 0, 1) := by decide +kernel
theorem dX10_laysChords_162 : decode cX10_laysChords 162 = .ok (.getfield 200, 3) := by decide +kernel
theorem dX10_laysChords_165 : decode cX10_laysChords 165 = .ok (.bipush 32, 2) := by decide +kernel
theorem dX10_laysChords_167 : decode cX10_laysChords 167 = .ok (.iastore, 1) := by decide +kernel
theorem dX10_laysChords_168 : decode cX10_laysChords 168 = .ok (.aload_n 0, 1) := by decide +kernel
theorem dX10_laysChords_169 : decode cX10_laysChords 169 = .ok (.dup, 1) := by decide +kernel
theorem dX10_laysChords_170 : decode cX10_laysChords 170 = .ok (.getfield 200, 3) := by decide +kernel
theorem dX10_laysChords_173 : decode cX10_laysChords 173 = .ok (.iconst 1, 1) := by decide +kernel
theorem dX10_laysChords_174 : decode cX10_laysChords 174 = .ok (.iadd, 1) := by decide +kernel
theorem dX10_laysChords_175 : decode cX10_laysChords 175 = .ok (.putfield 200, 3) := by decide +kernel
theorem dX10_laysChords_178 : decode cX10_laysChords 178 = .ok (.goto (-32), 3) := by decide +kernel
theorem dX10_laysChords_181 : decode cX10_laysChords 181 = .ok (.aload_n 0, 1) := by decide +kernel
theorem dX10_laysChords_182 : decode cX10_laysChords 182 = .ok (.iload 5, 2) := by decide +kernel
theorem dX10_laysChords_184 : decode cX10_laysChords 184 = .ok (.invokevirtual 143, 3) := by decide +kernel
theorem dX10_laysChords_187 : decode cX10_laysChords 187 = .ok (.iconst 0, 1) := by decide +kernel
theorem dX10_laysChords_188 : decode cX10_laysChords 188 = .ok (.istore 6, 2) := by decide +kernel
theorem dX10_laysChords_190 : decode cX10_laysChords 190 = .ok (.iload 6, 2) := by decide +kernel
theorem dX10_laysChords_192 : decode cX10_laysChords 192 = .ok (.aload_n 0, 1) := by decide +kernel
theorem dX10_laysChords_193 : decode cX10_laysChords 193 = .ok (.getfield 133, 3) := by decide +kernel
theorem dX10_laysChords_196 : decode cX10_laysChords 196 = .ok (.if_icmp .ge 35, 3) := by decide +kernel
theorem dX10_laysChords_199 : decode cX10_laysChords 199 = .ok (.aload_n 0, 1) := by decide +kernel
theorem dX10_laysChords_200 : decode cX10_laysChords 200 = .ok (.getfield 40, 3) := by decide +kernel
theorem dX10_laysChords_203 : decode cX10_laysChords 203 = .ok (.aload_n 0, 1) := by decide +kernel
theorem dX10_laysChords_204 : decode cX10_laysChords 204 = .ok (.getfield 200, 3) := by decide +kernel
theorem dX10_laysChords_207 : decode cX10_laysChords 207 = .ok (.aload_n 0, 1) := by decide +kernel
theorem dX10_laysChords_208 : decode cX10_laysChords 208 = .ok (.getfield 37, 3) := by decide +kernel
theorem dX10_laysChords_211 : decode cX10_laysChords 211 = .ok (.iload 6, 2) := by decide +kernel
theorem dX10_laysChords_213 : decode cX10_laysChords 213 = .ok (.iaload, 1) := by decide +kernel
theorem dX10_laysChords_214 : decode cX10_laysChords 214 = .ok (.iastore, 1) := by decide +kernel
theorem dX10_laysChords_215 : decode cX10_laysChords 215 = .ok (.aload_n 0, 1) := by decide +kernel
theorem dX10_laysChords_216 : decode cX10_laysChords 216 = .ok (.dup, 1) := by decide +kernel
theorem dX10_laysChords_217 : decode cX10_laysChords 217 = .ok (.getfield 200, 3) := by decide +kernel
theorem dX10_laysChords_220 : decode cX10_laysChords 220 = .ok (.iconst 1, 1) := by decide +kernel
theorem dX10_laysChords_221 : decode cX10_laysChords 221 = .ok (.iadd, 1) := by decide +kernel
theorem dX10_laysChords_222 : decode cX10_laysChords 222 = .ok (.putfield 200, 3) := by decide +kernel
theorem dX10_laysChords_225 : decode cX10_laysChords 225 = .ok (.iinc 6 1, 3) := by decide +kernel
theorem dX10_laysChords_228 : decode cX10_laysChords 228 = .ok (.goto (-38), 3) := by decide +kernel
theorem dX10_laysChords_231 : decode cX10_laysChords 231 = .ok (.iinc 5 1, 3) := by decide +kernel
theorem dX10_laysChords_234 : decode cX10_laysChords 234 = .ok (.goto (-185), 3) := by decide +kernel
theorem dX10_laysChords_237 : decode cX10_laysChords 237 = .ok (.return_, 1) := by decide +kernel
theorem dX10_lays_0 : decode cX10_lays 0 = .ok (.aload_n 0, 1) := by decide +kernel
theorem dX10_lays_1 : decode cX10_lays 1 = .ok (.iconst 0, 1) := by decide +kernel
theorem dX10_lays_2 : decode cX10_lays 2 = .ok (.putfield 200, 3) := by decide +kernel
theorem dX10_lays_5 : decode cX10_lays 5 = .ok (.aload_n 0, 1) := by decide +kernel
theorem dX10_lays_6 : decode cX10_lays 6 = .ok (.iconst 0, 1) := by decide +kernel
theorem dX10_lays_7 : decode cX10_lays 7 = .ok (.putfield 203, 3) := by decide +kernel
theorem dX10_lays_10 : decode cX10_lays 10 = .ok (.iload_n 2, 1) := by decide +kernel
theorem dX10_lays_11 : decode cX10_lays 11 = .ok (.istore 4, 2) := by decide +kernel
theorem dX10_lays_13 : decode cX10_lays 13 = .ok (.iload 4, 2) := by decide +kernel
theorem dX10_lays_15 : decode cX10_lays 15 = .ok (.iload_n 3, 1) := by decide +kernel
theorem dX10_lays_16 : decode cX10_lays 16 = .ok (.if_icmp .ge 42, 3) := by decide +kernel
theorem dX10_lays_19 : decode cX10_lays 19 = .ok (.aload_n 0, 1) := by decide +kernel
theorem dX10_lays_20 : decode cX10_lays 20 = .ok (.iload_n 1, 1) := by decide +kernel
theorem dX10_lays_21 : decode cX10_lays 21 = .ok (.iload 4, 2) := by decide +kernel
theorem dX10_lays_23 : decode cX10_lays 23 = .ok (.invokevirtual 206, 3) := by decide +kernel
theorem dX10_lays_26 : decode cX10_lays 26 = .ok (.aload_n 0, 1) := by decide +kernel
theorem dX10_lays_27 : decode cX10_lays 27 = .ok (.getfield 43, 3) := by decide +kernel
theorem dX10_lays_30 : decode cX10_lays 30 = .ok (.aload_n 0, 1) := by decide +kernel
theorem dX10_lays_31 : decode cX10_lays 31 = .ok (.getfield 203, 3) := by decide +kernel
theorem dX10_lays_34 : decode cX10_lays 34 = .ok (.aload_n 0, 1) := by decide +kernel
theorem dX10_lays_35 : decode cX10_lays 35 = .ok (.iload_n 1, 1) := by decide +kernel
theorem dX10_lays_36 : decode cX10_lays 36 = .ok (.iload 4, 2) := by decide +kernel
theorem dX10_lays_38 : decode cX10_lays 38 = .ok (.invokevirtual 123, 3) := by decide +kernel
theorem dX10_lays_41 : decode cX10_lays 41 = .ok (.iastore, 1) := by decide +kernel
theorem dX10_lays_42 : decode cX10_lays 42 = .ok (.aload_n 0, 1) := by decide +kernel
theorem dX10_lays_43 : decode cX10_lays 43 = .ok (.dup, 1) := by decide +kernel
theorem dX10_lays_44 : decode cX10_lays 44 = .ok (.getfield 203, 3) := by decide +kernel
theorem dX10_lays_47 : decode cX10_lays 47 = .ok (.iconst 1, 1) := by decide +kernel
theorem dX10_lays_48 : decode cX10_lays 48 = .ok (.iadd, 1) := by decide +kernel
theorem dX10_lays_49 : decode cX10_lays 49 = .ok (.putfield 203, 3) := by decide +kernel
theorem dX10_lays_52 : decode cX10_lays 52 = .ok (.iinc 4 1, 3) := by decide +kernel
theorem dX10_lays_55 : decode cX10_lays 55 = .ok (.goto (-42), 3) := by decide +kernel
theorem dX10_lays_58 : decode cX10_lays 58 = .ok (.iload_n 3, 1) := by decide +kernel
theorem dX10_lays_59 : decode cX10_lays 59 = .ok (.aload_n 0, 1) := by decide +kernel
theorem dX10_lays_60 : decode cX10_lays 60 = .ok (.iload_n 1, 1) := by decide +kernel
theorem dX10_lays_61 : decode cX10_lays 61 = .ok (.invokevirtual 120, 3) := by decide +kernel
theorem dX10_lays_64 : decode cX10_lays 64 = .ok (.if_icmp .ne 9, 3) := by decide +kernel
theorem dX10_lays_67 : decode cX10_lays 67 = .ok (.aload_n 0, 1) := by decide +kernel
theorem dX10_lays_68 : decode cX10_lays 68 = .ok (.iload_n 1, 1) := by decide +kernel
theorem dX10_lays_69 : decode cX10_lays 69 = .ok (.iload_n 3, 1) := by decide +kernel
theorem dX10_lays_70 : decode cX10_lays 70 = .ok (.invokevirtual 206, 3) := by decide +kernel
theorem dX10_lays_73 : decode cX10_lays 73 = .ok (.return_, 1) := by decide +kernel
theorem dX10_isBreak_0 : decode cX10_isBreak 0 = .ok (.aload_n 0, 1) := by decide +kernel
theorem dX10_isBreak_1 : decode cX10_isBreak 1 = .ok (.iload_n 1, 1) := by decide +kernel
theorem dX10_isBreak_2 : decode cX10_isBreak 2 = .ok (.invokevirtual 120, 3) := by decide +kernel
theorem dX10_isBreak_5 : decode cX10_isBreak 5 = .ok (.istore_n 3, 1) := by decide +kernel
theorem dX10_isBreak_6 : decode cX10_isBreak 6 = .ok (.iload_n 2, 1) := by decide +kernel
theorem dX10_isBreak_7 : decode cX10_isBreak 7 = .ok (.ifCond .eq 32, 3) := by decide +kernel
theorem dX10_isBreak_10 : decode cX10_isBreak 10 = .ok (.iload_n 2, 1) := by decide +kernel
theorem dX10_isBreak_11 : decode cX10_isBreak 11 = .ok (.iload_n 3, 1) := by decide +kernel
theorem dX10_isBreak_12 : decode cX10_isBreak 12 = .ok (.if_icmp .eq 27, 3) := by decide +kernel
theorem dX10_isBreak_15 : decode cX10_isBreak 15 = .ok (.aload_n 0, 1) := by decide +kernel
theorem dX10_isBreak_16 : decode cX10_isBreak 16 = .ok (.iload_n 1, 1) := by decide +kernel
theorem dX10_isBreak_17 : decode cX10_isBreak 17 = .ok (.iload_n 2, 1) := by decide +kernel
theorem dX10_isBreak_18 : decode cX10_isBreak 18 = .ok (.invokevirtual 123, 3) := by decide +kernel
theorem dX10_isBreak_21 : decode cX10_isBreak 21 = .ok (.bipush 32, 2) := by decide +kernel
theorem dX10_isBreak_23 : decode cX10_isBreak 23 = .ok (.if_icmp .eq 20, 3) := by decide +kernel
theorem dX10_isBreak_26 : decode cX10_isBreak 26 = .ok (.aload_n 0, 1) := by decide +kernel
theorem dX10_isBreak_27 : decode cX10_isBreak 27 = .ok (.iload_n 1, 1) := by decide +kernel
theorem dX10_isBreak_28 : decode cX10_isBreak 28 = .ok (.iload_n 2, 1) := by decide +kernel
theorem dX10_isBreak_29 : decode cX10_isBreak 29 = .ok (.iconst 1, 1) := by decide +kernel
theorem dX10_isBreak_30 : decode cX10_isBreak 30 = .ok (.isub, 1) := by decide +kernel
theorem dX10_isBreak_31 : decode cX10_isBreak 31 = .ok (.invokevirtual 123, 3) := by decide +kernel
theorem dX10_isBreak_34 : decode cX10_isBreak 34 = .ok (.bipush 32, 2) := by decide +kernel
theorem dX10_isBreak_36 : decode cX10_isBreak 36 = .ok (.if_icmp .ne 7, 3) := by decide +kernel
theorem dX10_isBreak_39 : decode cX10_isBreak 39 = .ok (.iconst 1, 1) := by decide +kernel
theorem dX10_isBreak_40 : decode cX10_isBreak 40 = .ok (.goto 4, 3) := by decide +kernel
theorem dX10_isBreak_43 : decode cX10_isBreak 43 = .ok (.iconst 0, 1) := by decide +kernel
theorem dX10_isBreak_44 : decode cX10_isBreak 44 = .ok (.ireturn, 1) := by decide +kernel
theorem dX10_endOf_0 : decode cX10_endOf 0 = .ok (.aload_n 0, 1) := by decide +kernel
theorem dX10_endOf_1 : decode cX10_endOf 1 = .ok (.iload_n 1, 1) := by decide +kernel
theorem dX10_endOf_2 : decode cX10_endOf 2 = .ok (.invokevirtual 120, 3) := by decide +kernel
theorem dX10_endOf_5 : decode cX10_endOf 5 = .ok (.istore_n 3, 1) := by decide +kernel
theorem dX10_endOf_6 : decode cX10_endOf 6 = .ok (.iload_n 3, 1) := by decide +kernel
theorem dX10_endOf_7 : decode cX10_endOf 7 = .ok (.istore 4, 2) := by decide +kernel
theorem dX10_endOf_9 : decode cX10_endOf 9 = .ok (.iconst (-1), 1) := by decide +kernel
theorem dX10_endOf_10 : decode cX10_endOf 10 = .ok (.istore 5, 2) := by decide +kernel
theorem dX10_endOf_12 : decode cX10_endOf 12 = .ok (.iload_n 3, 1) := by decide +kernel
theorem dX10_endOf_13 : decode cX10_endOf 13 = .ok (.istore 6, 2) := by decide +kernel
theorem dX10_endOf_15 : decode cX10_endOf 15 = .ok (.iload 6, 2) := by decide +kernel
theorem dX10_endOf_17 : decode cX10_endOf 17 = .ok (.iload_n 2, 1) := by decide +kernel
theorem dX10_endOf_18 : decode cX10_endOf 18 = .ok (.if_icmp .le 67, 3) := by decide +kernel
theorem dX10_endOf_21 : decode cX10_endOf 21 = .ok (.aload_n 0, 1) := by decide +kernel
theorem dX10_endOf_22 : decode cX10_endOf 22 = .ok (.iload_n 1, 1) := by decide +kernel
theorem dX10_endOf_23 : decode cX10_endOf 23 = .ok (.iload 6, 2) := by decide +kernel
theorem dX10_endOf_25 : decode cX10_endOf 25 = .ok (.invokevirtual 210, 3) := by decide +kernel
theorem dX10_endOf_28 : decode cX10_endOf 28 = .ok (.ifCond .eq 51, 3) := by decide +kernel
theorem dX10_endOf_31 : decode cX10_endOf 31 = .ok (.iload 6, 2) := by decide +kernel
theorem dX10_endOf_33 : decode cX10_endOf 33 = .ok (.istore 4, 2) := by decide +kernel
theorem dX10_endOf_35 : decode cX10_endOf 35 = .ok (.aload_n 0, 1) := by decide +kernel
theorem dX10_endOf_36 : decode cX10_endOf 36 = .ok (.iload_n 1, 1) := by decide +kernel
theorem dX10_endOf_37 : decode cX10_endOf 37 = .ok (.iload_n 2, 1) := by decide +kernel
theorem dX10_endOf_38 : decode cX10_endOf 38 = .ok (.iload 6, 2) := by decide +kernel
theorem dX10_endOf_40 : decode cX10_endOf 40 = .ok (.invokevirtual 213, 3) := by decide +kernel
theorem dX10_endOf_43 : decode cX10_endOf 43 = .ok (.iload 5, 2) := by decide +kernel
theorem dX10_endOf_45 : decode cX10_endOf 45 = .ok (.ifCond .ge 30, 3) := by decide +kernel
theorem dX10_endOf_48 : decode cX10_endOf 48 = .ok (.aload_n 0, 1) := by decide +kernel
theorem dX10_endOf_49 : decode cX10_endOf 49 = .ok (.getfield 200, 3) := by decide +kernel
theorem dX10_endOf_52 : decode cX10_endOf 52 = .ok (.aload_n 0, 1) := by decide +kernel
theorem dX10_endOf_53 : decode cX10_endOf 53 = .ok (.getfield 23, 3) := by decide +kernel
theorem dX10_endOf_56 : decode cX10_endOf 56 = .ok (.if_icmp .gt 19, 3) := by decide +kernel
theorem dX10_endOf_59 : decode cX10_endOf 59 = .ok (.aload_n 0, 1) := by decide +kernel
theorem dX10_endOf_60 : decode cX10_endOf 60 = .ok (.getfield 203, 3) := by decide +kernel
theorem dX10_endOf_63 : decode cX10_endOf 63 = .ok (.aload_n 0, 1) := by decide +kernel
theorem dX10_endOf_64 : decode cX10_endOf 64 = .ok (.getfield 23, 3) := by decide +kernel
theorem dX10_endOf_67 : decode cX10_endOf 67 = .ok (.if_icmp .gt 8, 3) := by decide +kernel
theorem dX10_endOf_70 : decode cX10_endOf 70 = .ok (.iload 6, 2) := by decide +kernel
theorem dX10_endOf_72 : decode cX10_endOf 72 = .ok (.goto 5, 3) := by decide +kernel
theorem dX10_endOf_75 : decode cX10_endOf 75 = .ok (.iload 5, 2) := by decide +kernel
theorem dX10_endOf_77 : decode cX10_endOf 77 = .ok (.istore 5, 2) := by decide +kernel
theorem dX10_endOf_79 : decode cX10_endOf 79 = .ok (.iinc 6 (-1), 3) := by decide +kernel
theorem dX10_endOf_82 : decode cX10_endOf 82 = .ok (.goto (-67), 3) := by decide +kernel
theorem dX10_endOf_85 : decode cX10_endOf 85 = .ok (.iload 5, 2) := by decide +kernel
theorem dX10_endOf_87 : decode cX10_endOf 87 = .ok (.ifCond .ge 8, 3) := by decide +kernel
theorem dX10_endOf_90 : decode cX10_endOf 90 = .ok (.iload 4, 2) := by decide +kernel
theorem dX10_endOf_92 : decode cX10_endOf 92 = .ok (.goto 5, 3) := by decide +kernel
theorem dX10_endOf_95 : decode cX10_endOf 95 = .ok (.iload 5, 2) := by decide +kernel
theorem dX10_endOf_97 : decode cX10_endOf 97 = .ok (.ireturn, 1) := by decide +kernel
theorem dX10_pairsOf_0 : decode cX10_pairsOf 0 = .ok (.aload_n 0, 1) := by decide +kernel
theorem dX10_pairsOf_1 : decode cX10_pairsOf 1 = .ok (.iload_n 1, 1) := by decide +kernel
theorem dX10_pairsOf_2 : decode cX10_pairsOf 2 = .ok (.invokevirtual 120, 3) := by decide +kernel
theorem dX10_pairsOf_5 : decode cX10_pairsOf 5 = .ok (.istore_n 2, 1) := by decide +kernel
theorem dX10_pairsOf_6 : decode cX10_pairsOf 6 = .ok (.iload_n 2, 1) := by decide +kernel
theorem dX10_pairsOf_7 : decode cX10_pairsOf 7 = .ok (.ifCond .ne 7, 3) := by decide +kernel
theorem dX10_pairsOf_10 : decode cX10_pairsOf 10 = .ok (.iconst 1, 1) := by decide +kernel
theorem dX10_pairsOf_11 : decode cX10_pairsOf 11 = .ok (.goto 4, 3) := by decide +kernel
theorem dX10_pairsOf_14 : decode cX10_pairsOf 14 = .ok (.iconst 0, 1) := by decide +kernel
theorem dX10_pairsOf_15 : decode cX10_pairsOf 15 = .ok (.istore_n 3, 1) := by decide +kernel
theorem dX10_pairsOf_16 : decode cX10_pairsOf 16 = .ok (.iconst 0, 1) := by decide +kernel
theorem dX10_pairsOf_17 : decode cX10_pairsOf 17 = .ok (.istore 4, 2) := by decide +kernel
theorem dX10_pairsOf_19 : decode cX10_pairsOf 19 = .ok (.iload 4, 2) := by decide +kernel
theorem dX10_pairsOf_21 : decode cX10_pairsOf 21 = .ok (.iload_n 2, 1) := by decide +kernel
theorem dX10_pairsOf_22 : decode cX10_pairsOf 22 = .ok (.if_icmp .ge 18, 3) := by decide +kernel
theorem dX10_pairsOf_25 : decode cX10_pairsOf 25 = .ok (.aload_n 0, 1) := by decide +kernel
theorem dX10_pairsOf_26 : decode cX10_pairsOf 26 = .ok (.iload_n 1, 1) := by decide +kernel
theorem dX10_pairsOf_27 : decode cX10_pairsOf 27 = .ok (.iload 4, 2) := by decide +kernel
theorem dX10_pairsOf_29 : decode cX10_pairsOf 29 = .ok (.invokevirtual 217, 3) := by decide +kernel
theorem dX10_pairsOf_32 : decode cX10_pairsOf 32 = .ok (.istore 4, 2) := by decide +kernel
theorem dX10_pairsOf_34 : decode cX10_pairsOf 34 = .ok (.iinc 3 1, 3) := by decide +kernel
theorem dX10_pairsOf_37 : decode cX10_pairsOf 37 = .ok (.goto (-18), 3) := by decide +kernel
theorem dX10_pairsOf_40 : decode cX10_pairsOf 40 = .ok (.iload_n 3, 1) := by decide +kernel
theorem dX10_pairsOf_41 : decode cX10_pairsOf 41 = .ok (.ireturn, 1) := by decide +kernel
theorem dX10_pairs_0 : decode cX10_pairs 0 = .ok (.aload_n 0, 1) := by decide +kernel
theorem dX10_pairs_1 : decode cX10_pairs 1 = .ok (.iconst 0, 1) := by decide +kernel
theorem dX10_pairs_2 : decode cX10_pairs 2 = .ok (.putfield 46, 3) := by decide +kernel
theorem dX10_pairs_5 : decode cX10_pairs 5 = .ok (.aload_n 0, 1) := by decide +kernel
theorem dX10_pairs_6 : decode cX10_pairs 6 = .ok (.iload_n 1, 1) := by decide +kernel
theorem dX10_pairs_7 : decode cX10_pairs 7 = .ok (.invokevirtual 117, 3) := by decide +kernel
theorem dX10_pairs_10 : decode cX10_pairs 10 = .ok (.ifCond .eq 11, 3) := by decide +kernel
theorem dX10_pairs_13 : decode cX10_pairs 13 = .ok (.aload_n 0, 1) := by decide +kernel
theorem dX10_pairs_14 : decode cX10_pairs 14 = .ok (.iload_n 1, 1) := by decide +kernel
theorem dX10_pairs_15 : decode cX10_pairs 15 = .ok (.invokevirtual 220, 3) := by decide +kernel
theorem dX10_pairs_18 : decode cX10_pairs 18 = .ok (.goto 8, 3) := by decide +kernel
theorem dX10_pairs_21 : decode cX10_pairs 21 = .ok (.aload_n 0, 1) := by decide +kernel
theorem dX10_pairs_22 : decode cX10_pairs 22 = .ok (.iconst 1, 1) := by decide +kernel
theorem dX10_pairs_23 : decode cX10_pairs 23 = .ok (.invokevirtual 101, 3) := by decide +kernel
theorem dX10_pairs_26 : decode cX10_pairs 26 = .ok (.ireturn, 1) := by decide +kernel
theorem dX10_isRow_0 : decode cX10_isRow 0 = .ok (.aload_n 0, 1) := by decide +kernel
theorem dX10_isRow_1 : decode cX10_isRow 1 = .ok (.iload_n 1, 1) := by decide +kernel
theorem dX10_isRow_2 : decode cX10_isRow 2 = .ok (.invokevirtual 117, 3) := by decide +kernel
theorem dX10_isRow_5 : decode cX10_isRow 5 = .ok (.ifCond .eq 29, 3) := by decide +kernel
theorem dX10_isRow_8 : decode cX10_isRow 8 = .ok (.iload_n 3, 1) := by decide +kernel
theorem dX10_isRow_9 : decode cX10_isRow 9 = .ok (.iconst 0, 1) := by decide +kernel
theorem dX10_isRow_10 : decode cX10_isRow 10 = .ok (.iconst 1, 1) := by decide +kernel
theorem dX10_isRow_11 : decode cX10_isRow 11 = .ok (.invokestatic 97, 3) := by decide +kernel
theorem dX10_isRow_14 : decode cX10_isRow 14 = .ok (.ifCond .eq 20, 3) := by decide +kernel
theorem dX10_isRow_17 : decode cX10_isRow 17 = .ok (.iload_n 2, 1) := by decide +kernel
theorem dX10_isRow_18 : decode cX10_isRow 18 = .ok (.ifCond .lt 16, 3) := by decide +kernel
theorem dX10_isRow_21 : decode cX10_isRow 21 = .ok (.iload_n 2, 1) := by decide +kernel
theorem dX10_isRow_22 : decode cX10_isRow 22 = .ok (.aload_n 0, 1) := by decide +kernel
theorem dX10_isRow_23 : decode cX10_isRow 23 = .ok (.iload_n 1, 1) := by decide +kernel
theorem dX10_isRow_24 : decode cX10_isRow 24 = .ok (.invokevirtual 220, 3) := by decide +kernel
theorem dX10_isRow_27 : decode cX10_isRow 27 = .ok (.if_icmp .ge 7, 3) := by decide +kernel
theorem dX10_isRow_30 : decode cX10_isRow 30 = .ok (.iconst 1, 1) := by decide +kernel
theorem dX10_isRow_31 : decode cX10_isRow 31 = .ok (.goto 4, 3) := by decide +kernel
theorem dX10_isRow_34 : decode cX10_isRow 34 = .ok (.iconst 0, 1) := by decide +kernel
theorem dX10_isRow_35 : decode cX10_isRow 35 = .ok (.ireturn, 1) := by decide +kernel
theorem dX10_laysPair_0 : decode cX10_laysPair 0 = .ok (.iconst 0, 1) := by decide +kernel
theorem dX10_laysPair_1 : decode cX10_laysPair 1 = .ok (.istore_n 3, 1) := by decide +kernel
theorem dX10_laysPair_2 : decode cX10_laysPair 2 = .ok (.iconst 0, 1) := by decide +kernel
theorem dX10_laysPair_3 : decode cX10_laysPair 3 = .ok (.istore 4, 2) := by decide +kernel
theorem dX10_laysPair_5 : decode cX10_laysPair 5 = .ok (.iload 4, 2) := by decide +kernel
theorem dX10_laysPair_7 : decode cX10_laysPair 7 = .ok (.iload_n 2, 1) := by decide +kernel
theorem dX10_laysPair_8 : decode cX10_laysPair 8 = .ok (.if_icmp .ge 16, 3) := by decide +kernel
theorem dX10_laysPair_11 : decode cX10_laysPair 11 = .ok (.aload_n 0, 1) := by decide +kernel
theorem dX10_laysPair_12 : decode cX10_laysPair 12 = .ok (.iload_n 1, 1) := by decide +kernel
theorem dX10_laysPair_13 : decode cX10_laysPair 13 = .ok (.iload_n 3, 1) := by decide +kernel
theorem dX10_laysPair_14 : decode cX10_laysPair 14 = .ok (.invokevirtual 217, 3) := by decide +kernel
theorem dX10_laysPair_17 : decode cX10_laysPair 17 = .ok (.istore_n 3, 1) := by decide +kernel
theorem dX10_laysPair_18 : decode cX10_laysPair 18 = .ok (.iinc 4 1, 3) := by decide +kernel
theorem dX10_laysPair_21 : decode cX10_laysPair 21 = .ok (.goto (-16), 3) := by decide +kernel
theorem dX10_laysPair_24 : decode cX10_laysPair 24 = .ok (.aload_n 0, 1) := by decide +kernel
theorem dX10_laysPair_25 : decode cX10_laysPair 25 = .ok (.iload_n 1, 1) := by decide +kernel
theorem dX10_laysPair_26 : decode cX10_laysPair 26 = .ok (.iload_n 3, 1) := by decide +kernel
theorem dX10_laysPair_27 : decode cX10_laysPair 27 = .ok (.aload_n 0, 1) := by decide +kernel
theorem dX10_laysPair_28 : decode cX10_laysPair 28 = .ok (.iload_n 1, 1) := by decide +kernel
theorem dX10_laysPair_29 : decode cX10_laysPair 29 = .ok (.iload_n 3, 1) := by decide +kernel
theorem dX10_laysPair_30 : decode cX10_laysPair 30 = .ok (.invokevirtual 217, 3) := by decide +kernel
theorem dX10_laysPair_33 : decode cX10_laysPair 33 = .ok (.invokevirtual 213, 3) := by decide +kernel
theorem dX10_laysPair_36 : decode cX10_laysPair 36 = .ok (.return_, 1) := by decide +kernel
theorem dX10_rowLength_0 : decode cX10_rowLength 0 = .ok (.aload_n 0, 1) := by decide +kernel
theorem dX10_rowLength_1 : decode cX10_rowLength 1 = .ok (.iconst 0, 1) := by decide +kernel
theorem dX10_rowLength_2 : decode cX10_rowLength 2 = .ok (.putfield 46, 3) := by decide +kernel
theorem dX10_rowLength_5 : decode cX10_rowLength 5 = .ok (.aload_n 0, 1) := by decide +kernel
theorem dX10_rowLength_6 : decode cX10_rowLength 6 = .ok (.iload_n 1, 1) := by decide +kernel
theorem dX10_rowLength_7 : decode cX10_rowLength 7 = .ok (.iload_n 2, 1) := by decide +kernel
theorem dX10_rowLength_8 : decode cX10_rowLength 8 = .ok (.iload_n 3, 1) := by decide +kernel
theorem dX10_rowLength_9 : decode cX10_rowLength 9 = .ok (.invokevirtual 223, 3) := by decide +kernel
theorem dX10_rowLength_12 : decode cX10_rowLength 12 = .ok (.ifCond .ne 9, 3) := by decide +kernel
theorem dX10_rowLength_15 : decode cX10_rowLength 15 = .ok (.aload_n 0, 1) := by decide +kernel
theorem dX10_rowLength_16 : decode cX10_rowLength 16 = .ok (.iconst 1, 1) := by decide +kernel
theorem dX10_rowLength_17 : decode cX10_rowLength 17 = .ok (.invokevirtual 101, 3) := by decide +kernel
theorem dX10_rowLength_20 : decode cX10_rowLength 20 = .ok (.ireturn, 1) := by decide +kernel
theorem dX10_rowLength_21 : decode cX10_rowLength 21 = .ok (.aload_n 0, 1) := by decide +kernel
theorem dX10_rowLength_22 : decode cX10_rowLength 22 = .ok (.iload_n 1, 1) := by decide +kernel
theorem dX10_rowLength_23 : decode cX10_rowLength 23 = .ok (.iload_n 2, 1) := by decide +kernel
theorem dX10_rowLength_24 : decode cX10_rowLength 24 = .ok (.invokevirtual 226, 3) := by decide +kernel
theorem dX10_rowLength_27 : decode cX10_rowLength 27 = .ok (.iload_n 3, 1) := by decide +kernel
theorem dX10_rowLength_28 : decode cX10_rowLength 28 = .ok (.ifCond .ne 10, 3) := by decide +kernel
theorem dX10_rowLength_31 : decode cX10_rowLength 31 = .ok (.aload_n 0, 1) := by decide +kernel
theorem dX10_rowLength_32 : decode cX10_rowLength 32 = .ok (.getfield 200, 3) := by decide +kernel
theorem dX10_rowLength_35 : decode cX10_rowLength 35 = .ok (.goto 7, 3) := by decide +kernel
theorem dX10_rowLength_38 : decode cX10_rowLength 38 = .ok (.aload_n 0, 1) := by decide +kernel
theorem dX10_rowLength_39 : decode cX10_rowLength 39 = .ok (.getfield 203, 3) := by decide +kernel
theorem dX10_rowLength_42 : decode cX10_rowLength 42 = .ok (.ireturn, 1) := by decide +kernel
theorem dX10_rowChar_0 : decode cX10_rowChar 0 = .ok (.aload_n 0, 1) := by decide +kernel
theorem dX10_rowChar_1 : decode cX10_rowChar 1 = .ok (.iconst 0, 1) := by decide +kernel
theorem dX10_rowChar_2 : decode cX10_rowChar 2 = .ok (.putfield 46, 3) := by decide +kernel
theorem dX10_rowChar_5 : decode cX10_rowChar 5 = .ok (.aload_n 0, 1) := by decide +kernel
theorem dX10_rowChar_6 : decode cX10_rowChar 6 = .ok (.iload_n 1, 1) := by decide +kernel
theorem dX10_rowChar_7 : decode cX10_rowChar 7 = .ok (.iload_n 2, 1) := by decide +kernel
theorem dX10_rowChar_8 : decode cX10_rowChar 8 = .ok (.iload_n 3, 1) := by decide +kernel
theorem dX10_rowChar_9 : decode cX10_rowChar 9 = .ok (.invokevirtual 223, 3) := by decide +kernel
theorem dX10_rowChar_12 : decode cX10_rowChar 12 = .ok (.ifCond .eq 8, 3) := by decide +kernel
theorem dX10_rowChar_15 : decode cX10_rowChar 15 = .ok (.iload 4, 2) := by decide +kernel
theorem dX10_rowChar_17 : decode cX10_rowChar 17 = .ok (.ifCond .ge 9, 3) := by decide +kernel
theorem dX10_rowChar_20 : decode cX10_rowChar 20 = .ok (.aload_n 0, 1) := by decide +kernel
theorem dX10_rowChar_21 : decode cX10_rowChar 21 = .ok (.iconst 1, 1) := by decide +kernel
theorem dX10_rowChar_22 : decode cX10_rowChar 22 = .ok (.invokevirtual 101, 3) := by decide +kernel
theorem dX10_rowChar_25 : decode cX10_rowChar 25 = .ok (.ireturn, 1) := by decide +kernel
theorem dX10_rowChar_26 : decode cX10_rowChar 26 = .ok (.aload_n 0, 1) := by decide +kernel
theorem dX10_rowChar_27 : decode cX10_rowChar 27 = .ok (.iload_n 1, 1) := by decide +kernel
theorem dX10_rowChar_28 : decode cX10_rowChar 28 = .ok (.iload_n 2, 1) := by decide +kernel
theorem dX10_rowChar_29 : decode cX10_rowChar 29 = .ok (.invokevirtual 226, 3) := by decide +kernel
theorem dX10_rowChar_32 : decode cX10_rowChar 32 = .ok (.iload_n 3, 1) := by decide +kernel
theorem dX10_rowChar_33 : decode cX10_rowChar 33 = .ok (.ifCond .ne 24, 3) := by decide +kernel
theorem dX10_rowChar_36 : decode cX10_rowChar 36 = .ok (.iload 4, 2) := by decide +kernel
theorem dX10_rowChar_38 : decode cX10_rowChar 38 = .ok (.aload_n 0, 1) := by decide +kernel
theorem dX10_rowChar_39 : decode cX10_rowChar 39 = .ok (.getfield 200, 3) := by decide +kernel
theorem dX10_rowChar_42 : decode cX10_rowChar 42 = .ok (.if_icmp .ge 13, 3) := by decide +kernel
theorem dX10_rowChar_45 : decode cX10_rowChar 45 = .ok (.aload_n 0, 1) := by decide +kernel
theorem dX10_rowChar_46 : decode cX10_rowChar 46 = .ok (.getfield 40, 3) := by decide +kernel
theorem dX10_rowChar_49 : decode cX10_rowChar 49 = .ok (.iload 4, 2) := by decide +kernel
theorem dX10_rowChar_51 : decode cX10_rowChar 51 = .ok (.iaload, 1) := by decide +kernel
theorem dX10_rowChar_52 : decode cX10_rowChar 52 = .ok (.goto 4, 3) := by decide +kernel
theorem dX10_rowChar_55 : decode cX10_rowChar 55 = .ok (.iconst (-1), 1) := by decide +kernel
theorem dX10_rowChar_56 : decode cX10_rowChar 56 = .ok (.ireturn, 1) := by decide +kernel
theorem dX10_rowChar_57 : decode cX10_rowChar 57 = .ok (.iload 4, 2) := by decide +kernel
theorem dX10_rowChar_59 : decode cX10_rowChar 59 = .ok (.aload_n 0, 1) := by decide +kernel
theorem dX10_rowChar_60 : decode cX10_rowChar 60 = .ok (.getfield 203, 3) := by decide +kernel
theorem dX10_rowChar_63 : decode cX10_rowChar 63 = .ok (.if_icmp .ge 13, 3) := by decide +kernel
theorem dX10_rowChar_66 : decode cX10_rowChar 66 = .ok (.aload_n 0, 1) := by decide +kernel
theorem dX10_rowChar_67 : decode cX10_rowChar 67 = .ok (.getfield 43, 3) := by decide +kernel
theorem dX10_rowChar_70 : decode cX10_rowChar 70 = .ok (.iload 4, 2) := by decide +kernel
theorem dX10_rowChar_72 : decode cX10_rowChar 72 = .ok (.iaload, 1) := by decide +kernel
theorem dX10_rowChar_73 : decode cX10_rowChar 73 = .ok (.goto 4, 3) := by decide +kernel
theorem dX10_rowChar_76 : decode cX10_rowChar 76 = .ok (.iconst (-1), 1) := by decide +kernel
theorem dX10_rowChar_77 : decode cX10_rowChar 77 = .ok (.ireturn, 1) := by decide +kernel
theorem dX10_undo_0 : decode cX10_undo 0 = .ok (.aload_n 0, 1) := by decide +kernel
theorem dX10_undo_1 : decode cX10_undo 1 = .ok (.iconst 0, 1) := by decide +kernel
theorem dX10_undo_2 : decode cX10_undo 2 = .ok (.putfield 46, 3) := by decide +kernel
theorem dX10_undo_5 : decode cX10_undo 5 = .ok (.aload_n 0, 1) := by decide +kernel
theorem dX10_undo_6 : decode cX10_undo 6 = .ok (.getfield 49, 3) := by decide +kernel
theorem dX10_undo_9 : decode cX10_undo 9 = .ok (.ifCond .ne 9, 3) := by decide +kernel
theorem dX10_undo_12 : decode cX10_undo 12 = .ok (.aload_n 0, 1) := by decide +kernel
theorem dX10_undo_13 : decode cX10_undo 13 = .ok (.iconst 1, 1) := by decide +kernel
theorem dX10_undo_14 : decode cX10_undo 14 = .ok (.invokevirtual 101, 3) := by decide +kernel
theorem dX10_undo_17 : decode cX10_undo 17 = .ok (.ireturn, 1) := by decide +kernel
theorem dX10_undo_18 : decode cX10_undo 18 = .ok (.aload_n 0, 1) := by decide +kernel
theorem dX10_undo_19 : decode cX10_undo 19 = .ok (.dup, 1) := by decide +kernel
theorem dX10_undo_20 : decode cX10_undo 20 = .ok (.getfield 49, 3) := by decide +kernel
theorem dX10_undo_23 : decode cX10_undo 23 = .ok (.iconst 1, 1) := by decide +kernel
theorem dX10_undo_24 : decode cX10_undo 24 = .ok (.isub, 1) := by decide +kernel
theorem dX10_undo_25 : decode cX10_undo 25 = .ok (.putfield 49, 3) := by decide +kernel
theorem dX10_undo_28 : decode cX10_undo 28 = .ok (.iconst 0, 1) := by decide +kernel
theorem dX10_undo_29 : decode cX10_undo 29 = .ok (.istore_n 1, 1) := by decide +kernel
theorem dX10_undo_30 : decode cX10_undo 30 = .ok (.iload_n 1, 1) := by decide +kernel
theorem dX10_undo_31 : decode cX10_undo 31 = .ok (.sipush 620, 3) := by decide +kernel
theorem dX10_undo_34 : decode cX10_undo 34 = .ok (.if_icmp .ge 30, 3) := by decide +kernel
theorem dX10_undo_37 : decode cX10_undo 37 = .ok (.aload_n 0, 1) := by decide +kernel
theorem dX10_undo_38 : decode cX10_undo 38 = .ok (.getfield 7, 3) := by decide +kernel
theorem dX10_undo_41 : decode cX10_undo 41 = .ok (.iload_n 1, 1) := by decide +kernel
theorem dX10_undo_42 : decode cX10_undo 42 = .ok (.aload_n 0, 1) := by decide +kernel
theorem dX10_undo_43 : decode cX10_undo 43 = .ok (.getfield 13, 3) := by decide +kernel
theorem dX10_undo_46 : decode cX10_undo 46 = .ok (.sipush 620, 3) := by decide +kernel
theorem dX10_undo_49 : decode cX10_undo 49 = .ok (.aload_n 0, 1) := by decide +kernel
theorem dX10_undo_50 : decode cX10_undo 50 = .ok (.getfield 49, 3) := by decide +kernel
theorem dX10_undo_53 : decode cX10_undo 53 = .ok (.imul, 1) := by decide +kernel
theorem dX10_undo_54 : decode cX10_undo 54 = .ok (.iload_n 1, 1) := by decide +kernel
theorem dX10_undo_55 : decode cX10_undo 55 = .ok (.iadd, 1) := by decide +kernel
theorem dX10_undo_56 : decode cX10_undo 56 = .ok (.iaload, 1) := by decide +kernel
theorem dX10_undo_57 : decode cX10_undo 57 = .ok (.iastore, 1) := by decide +kernel
theorem dX10_undo_58 : decode cX10_undo 58 = .ok (.iinc 1 1, 3) := by decide +kernel
theorem dX10_undo_61 : decode cX10_undo 61 = .ok (.goto (-31), 3) := by decide +kernel
theorem dX10_undo_64 : decode cX10_undo 64 = .ok (.aload_n 0, 1) := by decide +kernel
theorem dX10_undo_65 : decode cX10_undo 65 = .ok (.getfield 49, 3) := by decide +kernel
theorem dX10_undo_68 : decode cX10_undo 68 = .ok (.ireturn, 1) := by decide +kernel
theorem dX10_fingerprint_0 : decode cX10_fingerprint 0 = .ok (.aload_n 0, 1) := by decide +kernel
theorem dX10_fingerprint_1 : decode cX10_fingerprint 1 = .ok (.iconst 0, 1) := by decide +kernel
theorem dX10_fingerprint_2 : decode cX10_fingerprint 2 = .ok (.putfield 46, 3) := by decide +kernel
theorem dX10_fingerprint_5 : decode cX10_fingerprint 5 = .ok (.ldc2_w 229, 3) := by decide +kernel
theorem dX10_fingerprint_8 : decode cX10_fingerprint 8 = .ok (.aload_n 0, 1) := by decide +kernel
theorem dX10_fingerprint_9 : decode cX10_fingerprint 9 = .ok (.getfield 7, 3) := by decide +kernel
theorem dX10_fingerprint_12 : decode cX10_fingerprint 12 = .ok (.iconst 0, 1) := by decide +kernel
theorem dX10_fingerprint_13 : decode cX10_fingerprint 13 = .ok (.iaload, 1) := by decide +kernel
theorem dX10_fingerprint_14 : decode cX10_fingerprint 14 = .ok (.i2l, 1) := by decide +kernel
theorem dX10_fingerprint_15 : decode cX10_fingerprint 15 = .ok (.ladd, 1) := by decide +kernel
theorem dX10_fingerprint_16 : decode cX10_fingerprint 16 = .ok (.lstore_n 1, 1) := by decide +kernel
theorem dX10_fingerprint_17 : decode cX10_fingerprint 17 = .ok (.iconst 0, 1) := by decide +kernel
theorem dX10_fingerprint_18 : decode cX10_fingerprint 18 = .ok (.istore_n 3, 1) := by decide +kernel
theorem dX10_fingerprint_19 : decode cX10_fingerprint 19 = .ok (.iload_n 3, 1) := by decide +kernel
theorem dX10_fingerprint_20 : decode cX10_fingerprint 20 = .ok (.aload_n 0, 1) := by decide +kernel
theorem dX10_fingerprint_21 : decode cX10_fingerprint 21 = .ok (.getfield 7, 3) := by decide +kernel
theorem dX10_fingerprint_24 : decode cX10_fingerprint 24 = .ok (.iconst 0, 1) := by decide +kernel
theorem dX10_fingerprint_25 : decode cX10_fingerprint 25 = .ok (.iaload, 1) := by decide +kernel
theorem dX10_fingerprint_26 : decode cX10_fingerprint 26 = .ok (.if_icmp .ge 56, 3) := by decide +kernel
theorem dX10_fingerprint_29 : decode cX10_fingerprint 29 = .ok (.ldc2_w 231, 3) := by decide +kernel
theorem dX10_fingerprint_32 : decode cX10_fingerprint 32 = .ok (.lload_n 1, 1) := by decide +kernel
theorem dX10_fingerprint_33 : decode cX10_fingerprint 33 = .ok (.lmul, 1) := by decide +kernel
theorem dX10_fingerprint_34 : decode cX10_fingerprint 34 = .ok (.aload_n 0, 1) := by decide +kernel
theorem dX10_fingerprint_35 : decode cX10_fingerprint 35 = .ok (.iload_n 3, 1) := by decide +kernel
theorem dX10_fingerprint_36 : decode cX10_fingerprint 36 = .ok (.invokevirtual 120, 3) := by decide +kernel
theorem dX10_fingerprint_39 : decode cX10_fingerprint 39 = .ok (.i2l, 1) := by decide +kernel
theorem dX10_fingerprint_40 : decode cX10_fingerprint 40 = .ok (.ladd, 1) := by decide +kernel
theorem dX10_fingerprint_41 : decode cX10_fingerprint 41 = .ok (.lstore_n 1, 1) := by decide +kernel
theorem dX10_fingerprint_42 : decode cX10_fingerprint 42 = .ok (.iconst 0, 1) := by decide +kernel
theorem dX10_fingerprint_43 : decode cX10_fingerprint 43 = .ok (.istore 4, 2) := by decide +kernel
theorem dX10_fingerprint_45 : decode cX10_fingerprint 45 = .ok (.iload 4, 2) := by decide +kernel
theorem dX10_fingerprint_47 : decode cX10_fingerprint 47 = .ok (.aload_n 0, 1) := by decide +kernel
theorem dX10_fingerprint_48 : decode cX10_fingerprint 48 = .ok (.iload_n 3, 1) := by decide +kernel
theorem dX10_fingerprint_49 : decode cX10_fingerprint 49 = .ok (.invokevirtual 120, 3) := by decide +kernel
theorem dX10_fingerprint_52 : decode cX10_fingerprint 52 = .ok (.if_icmp .ge 24, 3) := by decide +kernel
theorem dX10_fingerprint_55 : decode cX10_fingerprint 55 = .ok (.ldc2_w 231, 3) := by decide +kernel
theorem dX10_fingerprint_58 : decode cX10_fingerprint 58 = .ok (.lload_n 1, 1) := by decide +kernel
theorem dX10_fingerprint_59 : decode cX10_fingerprint 59 = .ok (.lmul, 1) := by decide +kernel
theorem dX10_fingerprint_60 : decode cX10_fingerprint 60 = .ok (.aload_n 0, 1) := by decide +kernel
theorem dX10_fingerprint_61 : decode cX10_fingerprint 61 = .ok (.iload_n 3, 1) := by decide +kernel
theorem dX10_fingerprint_62 : decode cX10_fingerprint 62 = .ok (.iload 4, 2) := by decide +kernel
theorem dX10_fingerprint_64 : decode cX10_fingerprint 64 = .ok (.invokevirtual 123, 3) := by decide +kernel
theorem dX10_fingerprint_67 : decode cX10_fingerprint 67 = .ok (.i2l, 1) := by decide +kernel
theorem dX10_fingerprint_68 : decode cX10_fingerprint 68 = .ok (.ladd, 1) := by decide +kernel
theorem dX10_fingerprint_69 : decode cX10_fingerprint 69 = .ok (.lstore_n 1, 1) := by decide +kernel
theorem dX10_fingerprint_70 : decode cX10_fingerprint 70 = .ok (.iinc 4 1, 3) := by decide +kernel
theorem dX10_fingerprint_73 : decode cX10_fingerprint 73 = .ok (.goto (-28), 3) := by decide +kernel
theorem dX10_fingerprint_76 : decode cX10_fingerprint 76 = .ok (.iinc 3 1, 3) := by decide +kernel
theorem dX10_fingerprint_79 : decode cX10_fingerprint 79 = .ok (.goto (-60), 3) := by decide +kernel
theorem dX10_fingerprint_82 : decode cX10_fingerprint 82 = .ok (.iconst 0, 1) := by decide +kernel
theorem dX10_fingerprint_83 : decode cX10_fingerprint 83 = .ok (.istore_n 3, 1) := by decide +kernel
theorem dX10_fingerprint_84 : decode cX10_fingerprint 84 = .ok (.iload_n 3, 1) := by decide +kernel
theorem dX10_fingerprint_85 : decode cX10_fingerprint 85 = .ok (.aload_n 0, 1) := by decide +kernel
theorem dX10_fingerprint_86 : decode cX10_fingerprint 86 = .ok (.getfield 7, 3) := by decide +kernel
theorem dX10_fingerprint_89 : decode cX10_fingerprint 89 = .ok (.iconst 1, 1) := by decide +kernel
theorem dX10_fingerprint_90 : decode cX10_fingerprint 90 = .ok (.iaload, 1) := by decide +kernel
theorem dX10_fingerprint_91 : decode cX10_fingerprint 91 = .ok (.if_icmp .ge 44, 3) := by decide +kernel
theorem dX10_fingerprint_94 : decode cX10_fingerprint 94 = .ok (.iconst 0, 1) := by decide +kernel
theorem dX10_fingerprint_95 : decode cX10_fingerprint 95 = .ok (.istore 4, 2) := by decide +kernel
theorem dX10_fingerprint_97 : decode cX10_fingerprint 97 = .ok (.iload 4, 2) := by decide +kernel
theorem dX10_fingerprint_99 : decode cX10_fingerprint 99 = .ok (.iconst 5, 1) := by decide +kernel
theorem dX10_fingerprint_100 : decode cX10_fingerprint 100 = .ok (.if_icmp .ge 29, 3) := by decide +kernel
theorem dX10_fingerprint_103 : decode cX10_fingerprint 103 = .ok (.ldc2_w 231, 3) := by decide +kernel
theorem dX10_fingerprint_106 : decode cX10_fingerprint 106 = .ok (.lload_n 1, 1) := by decide +kernel
theorem dX10_fingerprint_107 : decode cX10_fingerprint 107 = .ok (.lmul, 1) := by decide +kernel
theorem dX10_fingerprint_108 : decode cX10_fingerprint 108 = .ok (.aload_n 0, 1) := by decide +kernel
theorem dX10_fingerprint_109 : decode cX10_fingerprint 109 = .ok (.getfield 7, 3) := by decide +kernel
theorem dX10_fingerprint_112 : decode cX10_fingerprint 112 = .ok (.iload_n 3, 1) := by decide +kernel
theorem dX10_fingerprint_113 : decode cX10_fingerprint 113 = .ok (.invokestatic 94, 3) := by decide +kernel
theorem dX10_fingerprint_116 : decode cX10_fingerprint 116 = .ok (.iload 4, 2) := by decide +kernel
theorem dX10_fingerprint_118 : decode cX10_fingerprint 118 = .ok (.iadd, 1) := by decide +kernel
theorem dX10_fingerprint_119 : decode cX10_fingerprint 119 = .ok (.iaload, 1) := by decide +kernel
theorem dX10_fingerprint_120 : decode cX10_fingerprint 120 = .ok (.i2l, 1) := by decide +kernel
theorem dX10_fingerprint_121 : decode cX10_fingerprint 121 = .ok (.ladd, 1) := by decide +kernel
theorem dX10_fingerprint_122 : decode cX10_fingerprint 122 = .ok (.lstore_n 1, 1) := by decide +kernel
theorem dX10_fingerprint_123 : decode cX10_fingerprint 123 = .ok (.iinc 4 1, 3) := by decide +kernel
theorem dX10_fingerprint_126 : decode cX10_fingerprint 126 = .ok (.goto (-29), 3) := by decide +kernel
theorem dX10_fingerprint_129 : decode cX10_fingerprint 129 = .ok (.iinc 3 1, 3) := by decide +kernel
theorem dX10_fingerprint_132 : decode cX10_fingerprint 132 = .ok (.goto (-48), 3) := by decide +kernel
theorem dX10_fingerprint_135 : decode cX10_fingerprint 135 = .ok (.ldc2_w 231, 3) := by decide +kernel
theorem dX10_fingerprint_138 : decode cX10_fingerprint 138 = .ok (.ldc2_w 231, 3) := by decide +kernel
theorem dX10_fingerprint_141 : decode cX10_fingerprint 141 = .ok (.lload_n 1, 1) := by decide +kernel
theorem dX10_fingerprint_142 : decode cX10_fingerprint 142 = .ok (.lmul, 1) := by decide +kernel
theorem dX10_fingerprint_143 : decode cX10_fingerprint 143 = .ok (.aload_n 0, 1) := by decide +kernel
theorem dX10_fingerprint_144 : decode cX10_fingerprint 144 = .ok (.getfield 7, 3) := by decide +kernel
theorem dX10_fingerprint_147 : decode cX10_fingerprint 147 = .ok (.iconst 2, 1) := by decide +kernel
theorem dX10_fingerprint_148 : decode cX10_fingerprint 148 = .ok (.iaload, 1) := by decide +kernel
theorem dX10_fingerprint_149 : decode cX10_fingerprint 149 = .ok (.i2l, 1) := by decide +kernel
theorem dX10_fingerprint_150 : decode cX10_fingerprint 150 = .ok (.ladd, 1) := by decide +kernel
theorem dX10_fingerprint_151 : decode cX10_fingerprint 151 = .ok (.lmul, 1) := by decide +kernel
theorem dX10_fingerprint_152 : decode cX10_fingerprint 152 = .ok (.aload_n 0, 1) := by decide +kernel
theorem dX10_fingerprint_153 : decode cX10_fingerprint 153 = .ok (.getfield 7, 3) := by decide +kernel
theorem dX10_fingerprint_156 : decode cX10_fingerprint 156 = .ok (.iconst 3, 1) := by decide +kernel
theorem dX10_fingerprint_157 : decode cX10_fingerprint 157 = .ok (.iaload, 1) := by decide +kernel
theorem dX10_fingerprint_158 : decode cX10_fingerprint 158 = .ok (.i2l, 1) := by decide +kernel
theorem dX10_fingerprint_159 : decode cX10_fingerprint 159 = .ok (.ladd, 1) := by decide +kernel
theorem dX10_fingerprint_160 : decode cX10_fingerprint 160 = .ok (.lreturn, 1) := by decide +kernel
