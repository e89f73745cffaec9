/-! the constructor of the reference -/
set_option maxRecDepth 10000 in
set_option maxHeartbeats 1000000 in
theorem k_X10_init  : zMet q_X10_init 1 9 8857 [zR 0] [zO 6 [zN, zN, zI 0, zN, zI 0, zI 0, zI 0, zI 0, zI 0, zN, zN, zI 0, zI 0, zI 0, zI 0, zI 0, zI 0, zN, zN, zI 0, zN, zN, zI 0, zI 0]] (zD none (wM (zup (fun _ => 0) 0 1) (fun _ => 0) 0 (fun _ => 0) 0 1 0 200 0 0 0 0 0 0 0 (fun _ => 0) (fun _ => 0) 0 (fun _ => 0) (fun _ => 0) 0 0)) := by
  refine z_introF (ls := [(0, _)]) (by decide +kernel) rfl (fun _ _ => rfl) (fun _ _ => Nat.le_of_ble_eq_true rfl) ?_
  refine wa_aload_n (pc' := 1) dX10_init_0 rfl rfl rfl ?_
  refine wa_objI (pc' := 4) lo_X10 dX10_init_1 rfl (by decide) (Nat.le_of_ble_eq_true rfl) ?_
  refine wa_aload_n (pc' := 5) dX10_init_4 rfl rfl rfl ?_
  refine wa_sipush (pc' := 8) dX10_init_5 rfl rfl ?_
  refine wa_newarr (pc' := 10) (t := 0) (n := 620) (Or.inl ⟨rfl, rfl⟩) lar_int rfl dX10_init_8 rfl rfl (by decide) ⟨rfl, trivial⟩ rfl rfl rfl rfl (by decide) (by decide) rfl ?_
  show Wa _ _ _ _ _ _ _ _ (zR 1 :: _) [_, zA _ _ _] _ _
  refine wa_putfieldF (pc' := 13) (j := 0) (w' := [zO _ [_, _, _, _, _, _, _, _, _, _, _, _, _, _, _, _, _, _, _, _, _, _, _, _], _]) zc_X10 lk_X10_7 dX10_init_10 rfl (by decide) rfl rfl rfl rfl (Nat.le_of_ble_eq_true rfl) True.intro rfl ?_
  refine wa_aload_n (pc' := 14) dX10_init_13 rfl rfl rfl ?_
  refine wa_sipush (pc' := 17) dX10_init_14 rfl rfl ?_
  refine wa_newarr (pc' := 19) (t := 0) (n := 4960) (Or.inl ⟨rfl, rfl⟩) lar_int rfl dX10_init_17 rfl rfl (by decide) ⟨rfl, trivial, trivial⟩ rfl rfl rfl rfl (by decide) (by decide) rfl ?_
  show Wa _ _ _ _ _ _ _ _ (zR 2 :: _) [_, _, zA _ _ _] _ _
  refine wa_putfieldF (pc' := 22) (j := 1) (w' := [zO _ [_, _, _, _, _, _, _, _, _, _, _, _, _, _, _, _, _, _, _, _, _, _, _, _], _, _]) zc_X10 lk_X10_13 dX10_init_19 rfl (by decide) rfl rfl rfl rfl (Nat.le_of_ble_eq_true rfl) True.intro rfl ?_
  refine wa_aload_n (pc' := 23) dX10_init_22 rfl rfl rfl ?_
  refine wa_sipush (pc' := 26) dX10_init_23 rfl rfl ?_
  refine wa_newarr (pc' := 28) (t := 0) (n := 200) (Or.inl ⟨rfl, rfl⟩) lar_int rfl dX10_init_26 rfl rfl (by decide) ⟨rfl, trivial, trivial, trivial⟩ rfl rfl rfl rfl (by decide) (by decide) rfl ?_
  show Wa _ _ _ _ _ _ _ _ (zR 3 :: _) [_, _, _, zA _ _ _] _ _
  refine wa_putfieldF (pc' := 31) (j := 3) (w' := [zO _ [_, _, _, _, _, _, _, _, _, _, _, _, _, _, _, _, _, _, _, _, _, _, _, _], _, _, _]) zc_X10 lk_X10_16 dX10_init_28 rfl (by decide) rfl rfl rfl rfl (Nat.le_of_ble_eq_true rfl) True.intro rfl ?_
  refine wa_aload_n (pc' := 32) dX10_init_31 rfl rfl rfl ?_
  refine wa_iconst (pc' := 33) dX10_init_32 rfl ?_
  refine wa_putfield (pc' := 36) (j := 5) (w' := [zO _ [_, _, _, _, _, _, _, _, _, _, _, _, _, _, _, _, _, _, _, _, _, _, _, _], _, _, _]) zc_X10 lk_X10_19 dX10_init_33 rfl (by decide) rfl rfl (Nat.le_of_ble_eq_true rfl) (by show _ ∨ _; omega) rfl ?_
  refine wa_aload_n (pc' := 37) dX10_init_36 rfl rfl rfl ?_
  refine wa_sipush (pc' := 40) dX10_init_37 rfl rfl ?_
  refine wa_putfield (pc' := 43) (j := 7) (w' := [zO _ [_, _, _, _, _, _, _, _, _, _, _, _, _, _, _, _, _, _, _, _, _, _, _, _], _, _, _]) zc_X10 lk_X10_23 dX10_init_40 rfl (by decide) rfl rfl (Nat.le_of_ble_eq_true rfl) True.intro rfl ?_
  refine wa_aload_n (pc' := 44) dX10_init_43 rfl rfl rfl ?_
  refine wa_bipush (pc' := 46) dX10_init_44 rfl rfl ?_
  refine wa_newarr (pc' := 48) (t := 1) (n := 7) (Or.inr ⟨rfl, rfl⟩) lar_char rfl dX10_init_46 rfl rfl (by decide) ⟨rfl, trivial, trivial, trivial, trivial⟩ rfl rfl rfl rfl (by decide) (by decide) rfl ?_
  show Wa _ _ _ _ _ _ _ _ (zR 4 :: _) [_, _, _, _, zA _ _ _] _ _
  refine wa_dup (pc' := 49) dX10_init_48 rfl rfl ?_
  refine wa_iconst (pc' := 50) dX10_init_49 rfl ?_
  refine wa_bipush (pc' := 52) dX10_init_50 rfl rfl ?_
  refine wa_castore (pc' := 53) (w' := [_, _, _, _, zA _ _ _]) dX10_init_52 rfl rfl (by omega) (by omega) (by decide) (by omega) (by omega) rfl ?_
  refine wa_dup (pc' := 54) dX10_init_53 rfl rfl ?_
  refine wa_iconst (pc' := 55) dX10_init_54 rfl ?_
  refine wa_bipush (pc' := 57) dX10_init_55 rfl rfl ?_
  refine wa_castore (pc' := 58) (w' := [_, _, _, _, zA _ _ _]) dX10_init_57 rfl rfl (by omega) (by omega) (by decide) (by omega) (by omega) rfl ?_
  refine wa_dup (pc' := 59) dX10_init_58 rfl rfl ?_
  refine wa_iconst (pc' := 60) dX10_init_59 rfl ?_
  refine wa_bipush (pc' := 62) dX10_init_60 rfl rfl ?_
  refine wa_castore (pc' := 63) (w' := [_, _, _, _, zA _ _ _]) dX10_init_62 rfl rfl (by omega) (by omega) (by decide) (by omega) (by omega) rfl ?_
  refine wa_dup (pc' := 64) dX10_init_63 rfl rfl ?_
  refine wa_iconst (pc' := 65) dX10_init_64 rfl ?_
  refine wa_bipush (pc' := 67) dX10_init_65 rfl rfl ?_
  refine wa_castore (pc' := 68) (w' := [_, _, _, _, zA _ _ _]) dX10_init_67 rfl rfl (by omega) (by omega) (by decide) (by omega) (by omega) rfl ?_
  refine wa_dup (pc' := 69) dX10_init_68 rfl rfl ?_
  refine wa_iconst (pc' := 70) dX10_init_69 rfl ?_
  refine wa_bipush (pc' := 72) dX10_init_70 rfl rfl ?_
  refine wa_castore (pc' := 73) (w' := [_, _, _, _, zA _ _ _]) dX10_init_72 rfl rfl (by omega) (by omega) (by decide) (by omega) (by omega) rfl ?_
  refine wa_dup (pc' := 74) dX10_init_73 rfl rfl ?_
  refine wa_iconst (pc' := 75) dX10_init_74 rfl ?_
  refine wa_bipush (pc' := 77) dX10_init_75 rfl rfl ?_
  refine wa_castore (pc' := 78) (w' := [_, _, _, _, zA _ _ _]) dX10_init_77 rfl rfl (by omega) (by omega) (by decide) (by omega) (by omega) rfl ?_
  refine wa_dup (pc' := 79) dX10_init_78 rfl rfl ?_
  refine wa_bipush (pc' := 81) dX10_init_79 rfl rfl ?_
  refine wa_bipush (pc' := 83) dX10_init_81 rfl rfl ?_
  refine wa_castore (pc' := 84) (w' := [_, _, _, _, zA _ _ _]) dX10_init_83 rfl rfl (by omega) (by omega) (by decide) (by omega) (by omega) rfl ?_
  refine wa_putfieldF (pc' := 87) (j := 9) (w' := [zO _ [_, _, _, _, _, _, _, _, _, _, _, _, _, _, _, _, _, _, _, _, _, _, _, _], _, _, _, _]) zc_X10 lk_X10_27 dX10_init_84 rfl (by decide) rfl rfl rfl rfl (Nat.le_of_ble_eq_true rfl) True.intro rfl ?_
  refine wa_aload_n (pc' := 88) dX10_init_87 rfl rfl rfl ?_
  refine wa_bipush (pc' := 90) dX10_init_88 rfl rfl ?_
  refine wa_newarr (pc' := 92) (t := 1) (n := 30) (Or.inr ⟨rfl, rfl⟩) lar_char rfl dX10_init_90 rfl rfl (by decide) ⟨rfl, trivial, trivial, trivial, trivial, trivial⟩ rfl rfl rfl rfl (by decide) (by decide) rfl ?_
  show Wa _ _ _ _ _ _ _ _ (zR 5 :: _) [_, _, _, _, _, zA _ _ _] _ _
  refine wa_dup (pc' := 93) dX10_init_92 rfl rfl ?_
  refine wa_iconst (pc' := 94) dX10_init_93 rfl ?_
  refine wa_bipush (pc' := 96) dX10_init_94 rfl rfl ?_
  refine wa_castore (pc' := 97) (w' := [_, _, _, _, _, zA _ _ _]) dX10_init_96 rfl rfl (by omega) (by omega) (by decide) (by omega) (by omega) rfl ?_
  refine wa_dup (pc' := 98) dX10_init_97 rfl rfl ?_
  refine wa_iconst (pc' := 99) dX10_init_98 rfl ?_
  refine wa_bipush (pc' := 101) dX10_init_99 rfl rfl ?_
  refine wa_castore (pc' := 102) (w' := [_, _, _, _, _, zA _ _ _]) dX10_init_101 rfl rfl (by omega) (by omega) (by decide) (by omega) (by omega) rfl ?_
  refine wa_dup (pc' := 103) dX10_init_102 rfl rfl ?_
  refine wa_iconst (pc' := 104) dX10_init_103 rfl ?_
  refine wa_bipush (pc' := 106) dX10_init_104 rfl rfl ?_
  refine wa_castore (pc' := 107) (w' := [_, _, _, _, _, zA _ _ _]) dX10_init_106 rfl rfl (by omega) (by omega) (by decide) (by omega) (by omega) rfl ?_
  refine wa_dup (pc' := 108) dX10_init_107 rfl rfl ?_
  refine wa_iconst (pc' := 109) dX10_init_108 rfl ?_
  refine wa_bipush (pc' := 111) dX10_init_109 rfl rfl ?_
  refine wa_castore (pc' := 112) (w' := [_, _, _, _, _, zA _ _ _]) dX10_init_111 rfl rfl (by omega) (by omega) (by decide) (by omega) (by omega) rfl ?_
  refine wa_dup (pc' := 113) dX10_init_112 rfl rfl ?_
  refine wa_iconst (pc' := 114) dX10_init_113 rfl ?_
  refine wa_bipush (pc' := 116) dX10_init_114 rfl rfl ?_
  refine wa_castore (pc' := 117) (w' := [_, _, _, _, _, zA _ _ _]) dX10_init_116 rfl rfl (by omega) (by omega) (by decide) (by omega) (by omega) rfl ?_
  refine wa_dup (pc' := 118) dX10_init_117 rfl rfl ?_
  refine wa_iconst (pc' := 119) dX10_init_118 rfl ?_
  refine wa_bipush (pc' := 121) dX10_init_119 rfl rfl ?_
  refine wa_castore (pc' := 122) (w' := [_, _, _, _, _, zA _ _ _]) dX10_init_121 rfl rfl (by omega) (by omega) (by decide) (by omega) (by omega) rfl ?_
  refine wa_dup (pc' := 123) dX10_init_122 rfl rfl ?_
  refine wa_bipush (pc' := 125) dX10_init_123 rfl rfl ?_
  refine wa_bipush (pc' := 127) dX10_init_125 rfl rfl ?_
  refine wa_castore (pc' := 128) (w' := [_, _, _, _, _, zA _ _ _]) dX10_init_127 rfl rfl (by omega) (by omega) (by decide) (by omega) (by omega) rfl ?_
  refine wa_dup (pc' := 129) dX10_init_128 rfl rfl ?_
  refine wa_bipush (pc' := 131) dX10_init_129 rfl rfl ?_
  refine wa_bipush (pc' := 133) dX10_init_131 rfl rfl ?_
  refine wa_castore (pc' := 134) (w' := [_, _, _, _, _, zA _ _ _]) dX10_init_133 rfl rfl (by omega) (by omega) (by decide) (by omega) (by omega) rfl ?_
  refine wa_dup (pc' := 135) dX10_init_134 rfl rfl ?_
  refine wa_bipush (pc' := 137) dX10_init_135 rfl rfl ?_
  refine wa_bipush (pc' := 139) dX10_init_137 rfl rfl ?_
  refine wa_castore (pc' := 140) (w' := [_, _, _, _, _, zA _ _ _]) dX10_init_139 rfl rfl (by omega) (by omega) (by decide) (by omega) (by omega) rfl ?_
  refine wa_dup (pc' := 141) dX10_init_140 rfl rfl ?_
  refine wa_bipush (pc' := 143) dX10_init_141 rfl rfl ?_
  refine wa_bipush (pc' := 145) dX10_init_143 rfl rfl ?_
  refine wa_castore (pc' := 146) (w' := [_, _, _, _, _, zA _ _ _]) dX10_init_145 rfl rfl (by omega) (by omega) (by decide) (by omega) (by omega) rfl ?_
  refine wa_dup (pc' := 147) dX10_init_146 rfl rfl ?_
  refine wa_bipush (pc' := 149) dX10_init_147 rfl rfl ?_
  refine wa_bipush (pc' := 151) dX10_init_149 rfl rfl ?_
  refine wa_castore (pc' := 152) (w' := [_, _, _, _, _, zA _ _ _]) dX10_init_151 rfl rfl (by omega) (by omega) (by decide) (by omega) (by omega) rfl ?_
  refine wa_dup (pc' := 153) dX10_init_152 rfl rfl ?_
  refine wa_bipush (pc' := 155) dX10_init_153 rfl rfl ?_
  refine wa_bipush (pc' := 157) dX10_init_155 rfl rfl ?_
  refine wa_castore (pc' := 158) (w' := [_, _, _, _, _, zA _ _ _]) dX10_init_157 rfl rfl (by omega) (by omega) (by decide) (by omega) (by omega) rfl ?_
  refine wa_dup (pc' := 159) dX10_init_158 rfl rfl ?_
  refine wa_bipush (pc' := 161) dX10_init_159 rfl rfl ?_
  refine wa_bipush (pc' := 163) dX10_init_161 rfl rfl ?_
  refine wa_castore (pc' := 164) (w' := [_, _, _, _, _, zA _ _ _]) dX10_init_163 rfl rfl (by omega) (by omega) (by decide) (by omega) (by omega) rfl ?_
  refine wa_dup (pc' := 165) dX10_init_164 rfl rfl ?_
  refine wa_bipush (pc' := 167) dX10_init_165 rfl rfl ?_
  refine wa_bipush (pc' := 169) dX10_init_167 rfl rfl ?_
  refine wa_castore (pc' := 170) (w' := [_, _, _, _, _, zA _ _ _]) dX10_init_169 rfl rfl (by omega) (by omega) (by decide) (by omega) (by omega) rfl ?_
  refine wa_dup (pc' := 171) dX10_init_170 rfl rfl ?_
  refine wa_bipush (pc' := 173) dX10_init_171 rfl rfl ?_
  refine wa_bipush (pc' := 175) dX10_init_173 rfl rfl ?_
  refine wa_castore (pc' := 176) (w' := [_, _, _, _, _, zA _ _ _]) dX10_init_175 rfl rfl (by omega) (by omega) (by decide) (by omega) (by omega) rfl ?_
  refine wa_dup (pc' := 177) dX10_init_176 rfl rfl ?_
  refine wa_bipush (pc' := 179) dX10_init_177 rfl rfl ?_
  refine wa_bipush (pc' := 181) dX10_init_179 rfl rfl ?_
  refine wa_castore (pc' := 182) (w' := [_, _, _, _, _, zA _ _ _]) dX10_init_181 rfl rfl (by omega) (by omega) (by decide) (by omega) (by omega) rfl ?_
  refine wa_dup (pc' := 183) dX10_init_182 rfl rfl ?_
  refine wa_bipush (pc' := 185) dX10_init_183 rfl rfl ?_
  refine wa_bipush (pc' := 187) dX10_init_185 rfl rfl ?_
  refine wa_castore (pc' := 188) (w' := [_, _, _, _, _, zA _ _ _]) dX10_init_187 rfl rfl (by omega) (by omega) (by decide) (by omega) (by omega) rfl ?_
  refine wa_dup (pc' := 189) dX10_init_188 rfl rfl ?_
  refine wa_bipush (pc' := 191) dX10_init_189 rfl rfl ?_
  refine wa_bipush (pc' := 193) dX10_init_191 rfl rfl ?_
  refine wa_castore (pc' := 194) (w' := [_, _, _, _, _, zA _ _ _]) dX10_init_193 rfl rfl (by omega) (by omega) (by decide) (by omega) (by omega) rfl ?_
  refine wa_dup (pc' := 195) dX10_init_194 rfl rfl ?_
  refine wa_bipush (pc' := 197) dX10_init_195 rfl rfl ?_
  refine wa_bipush (pc' := 199) dX10_init_197 rfl rfl ?_
  refine wa_castore (pc' := 200) (w' := [_, _, _, _, _, zA _ _ _]) dX10_init_199 rfl rfl (by omega) (by omega) (by decide) (by omega) (by omega) rfl ?_
  refine wa_dup (pc' := 201) dX10_init_200 rfl rfl ?_
  refine wa_bipush (pc' := 203) dX10_init_201 rfl rfl ?_
  refine wa_bipush (pc' := 205) dX10_init_203 rfl rfl ?_
  refine wa_castore (pc' := 206) (w' := [_, _, _, _, _, zA _ _ _]) dX10_init_205 rfl rfl (by omega) (by omega) (by decide) (by omega) (by omega) rfl ?_
  refine wa_dup (pc' := 207) dX10_init_206 rfl rfl ?_
  refine wa_bipush (pc' := 209) dX10_init_207 rfl rfl ?_
  refine wa_bipush (pc' := 211) dX10_init_209 rfl rfl ?_
  refine wa_castore (pc' := 212) (w' := [_, _, _, _, _, zA _ _ _]) dX10_init_211 rfl rfl (by omega) (by omega) (by decide) (by omega) (by omega) rfl ?_
  refine wa_dup (pc' := 213) dX10_init_212 rfl rfl ?_
  refine wa_bipush (pc' := 215) dX10_init_213 rfl rfl ?_
  refine wa_bipush (pc' := 217) dX10_init_215 rfl rfl ?_
  refine wa_castore (pc' := 218) (w' := [_, _, _, _, _, zA _ _ _]) dX10_init_217 rfl rfl (by omega) (by omega) (by decide) (by omega) (by omega) rfl ?_
  refine wa_dup (pc' := 219) dX10_init_218 rfl rfl ?_
  refine wa_bipush (pc' := 221) dX10_init_219 rfl rfl ?_
  refine wa_bipush (pc' := 223) dX10_init_221 rfl rfl ?_
  refine wa_castore (pc' := 224) (w' := [_, _, _, _, _, zA _ _ _]) dX10_init_223 rfl rfl (by omega) (by omega) (by decide) (by omega) (by omega) rfl ?_
  refine wa_dup (pc' := 225) dX10_init_224 rfl rfl ?_
  refine wa_bipush (pc' := 227) dX10_init_225 rfl rfl ?_
  refine wa_bipush (pc' := 229) dX10_init_227 rfl rfl ?_
  refine wa_castore (pc' := 230) (w' := [_, _, _, _, _, zA _ _ _]) dX10_init_229 rfl rfl (by omega) (by omega) (by decide) (by omega) (by omega) rfl ?_
  refine wa_dup (pc' := 231) dX10_init_230 rfl rfl ?_
  refine wa_bipush (pc' := 233) dX10_init_231 rfl rfl ?_
  refine wa_bipush (pc' := 235) dX10_init_233 rfl rfl ?_
  refine wa_castore (pc' := 236) (w' := [_, _, _, _, _, zA _ _ _]) dX10_init_235 rfl rfl (by omega) (by omega) (by decide) (by omega) (by omega) rfl ?_
  refine wa_dup (pc' := 237) dX10_init_236 rfl rfl ?_
  refine wa_bipush (pc' := 239) dX10_init_237 rfl rfl ?_
  refine wa_bipush (pc' := 241) dX10_init_239 rfl rfl ?_
  refine wa_castore (pc' := 242) (w' := [_, _, _, _, _, zA _ _ _]) dX10_init_241 rfl rfl (by omega) (by omega) (by decide) (by omega) (by omega) rfl ?_
  refine wa_dup (pc' := 243) dX10_init_242 rfl rfl ?_
  refine wa_bipush (pc' := 245) dX10_init_243 rfl rfl ?_
  refine wa_bipush (pc' := 247) dX10_init_245 rfl rfl ?_
  refine wa_castore (pc' := 248) (w' := [_, _, _, _, _, zA _ _ _]) dX10_init_247 rfl rfl (by omega) (by omega) (by decide) (by omega) (by omega) rfl ?_
  refine wa_dup (pc' := 249) dX10_init_248 rfl rfl ?_
  refine wa_bipush (pc' := 251) dX10_init_249 rfl rfl ?_
  refine wa_bipush (pc' := 253) dX10_init_251 rfl rfl ?_
  refine wa_castore (pc' := 254) (w' := [_, _, _, _, _, zA _ _ _]) dX10_init_253 rfl rfl (by omega) (by omega) (by decide) (by omega) (by omega) rfl ?_
  refine wa_dup (pc' := 255) dX10_init_254 rfl rfl ?_
  refine wa_bipush (pc' := 257) dX10_init_255 rfl rfl ?_
  refine wa_bipush (pc' := 259) dX10_init_257 rfl rfl ?_
  refine wa_castore (pc' := 260) (w' := [_, _, _, _, _, zA _ _ _]) dX10_init_259 rfl rfl (by omega) (by omega) (by decide) (by omega) (by omega) rfl ?_
  refine wa_dup (pc' := 261) dX10_init_260 rfl rfl ?_
  refine wa_bipush (pc' := 263) dX10_init_261 rfl rfl ?_
  refine wa_bipush (pc' := 265) dX10_init_263 rfl rfl ?_
  refine wa_castore (pc' := 266) (w' := [_, _, _, _, _, zA _ _ _]) dX10_init_265 rfl rfl (by omega) (by omega) (by decide) (by omega) (by omega) rfl ?_
  refine wa_putfieldF (pc' := 269) (j := 10) (w' := [zO _ [_, _, _, _, _, _, _, _, _, _, _, _, _, _, _, _, _, _, _, _, _, _, _, _], _, _, _, _, _]) zc_X10 lk_X10_31 dX10_init_266 rfl (by decide) rfl rfl rfl rfl (Nat.le_of_ble_eq_true rfl) True.intro rfl ?_
  refine wa_aload_n (pc' := 270) dX10_init_269 rfl rfl rfl ?_
  refine wa_sipush (pc' := 273) dX10_init_270 rfl rfl ?_
  refine wa_newarr (pc' := 275) (t := 0) (n := 620) (Or.inl ⟨rfl, rfl⟩) lar_int rfl dX10_init_273 rfl rfl (by decide) ⟨rfl, trivial, trivial, trivial, trivial, trivial, trivial⟩ rfl rfl rfl rfl (by decide) (by decide) rfl ?_
  show Wa _ _ _ _ _ _ _ _ (zR 6 :: _) [_, _, _, _, _, _, zA _ _ _] _ _
  refine wa_putfieldF (pc' := 278) (j := 17) (w' := [zO _ [_, _, _, _, _, _, _, _, _, _, _, _, _, _, _, _, _, _, _, _, _, _, _, _], _, _, _, _, _, _]) zc_X10 lk_X10_34 dX10_init_275 rfl (by decide) rfl rfl rfl rfl (Nat.le_of_ble_eq_true rfl) True.intro rfl ?_
  refine wa_aload_n (pc' := 279) dX10_init_278 rfl rfl rfl ?_
  refine wa_bipush (pc' := 281) dX10_init_279 rfl rfl ?_
  refine wa_newarr (pc' := 283) (t := 0) (n := 20) (Or.inl ⟨rfl, rfl⟩) lar_int rfl dX10_init_281 rfl rfl (by decide) ⟨rfl, trivial, trivial, trivial, trivial, trivial, trivial, trivial⟩ rfl rfl rfl rfl (by decide) (by decide) rfl ?_
  show Wa _ _ _ _ _ _ _ _ (zR 7 :: _) [_, _, _, _, _, _, _, zA _ _ _] _ _
  refine wa_putfieldF (pc' := 286) (j := 18) (w' := [zO _ [_, _, _, _, _, _, _, _, _, _, _, _, _, _, _, _, _, _, _, _, _, _, _, _], _, _, _, _, _, _, _]) zc_X10 lk_X10_37 dX10_init_283 rfl (by decide) rfl rfl rfl rfl (Nat.le_of_ble_eq_true rfl) True.intro rfl ?_
  refine wa_aload_n (pc' := 287) dX10_init_286 rfl rfl rfl ?_
  refine wa_sipush (pc' := 290) dX10_init_287 rfl rfl ?_
  refine wa_newarr (pc' := 292) (t := 0) (n := 1200) (Or.inl ⟨rfl, rfl⟩) lar_int rfl dX10_init_290 rfl rfl (by decide) ⟨rfl, trivial, trivial, trivial, trivial, trivial, trivial, trivial, trivial⟩ rfl rfl rfl rfl (by decide) (by decide) rfl ?_
  show Wa _ _ _ _ _ _ _ _ (zR 8 :: _) [_, _, _, _, _, _, _, _, zA _ _ _] _ _
  refine wa_putfieldF (pc' := 295) (j := 20) (w' := [zO _ [_, _, _, _, _, _, _, _, _, _, _, _, _, _, _, _, _, _, _, _, _, _, _, _], _, _, _, _, _, _, _, _]) zc_X10 lk_X10_40 dX10_init_292 rfl (by decide) rfl rfl rfl rfl (Nat.le_of_ble_eq_true rfl) True.intro rfl ?_
  refine wa_aload_n (pc' := 296) dX10_init_295 rfl rfl rfl ?_
  refine wa_sipush (pc' := 299) dX10_init_296 rfl rfl ?_
  refine wa_newarr (pc' := 301) (t := 0) (n := 1200) (Or.inl ⟨rfl, rfl⟩) lar_int rfl dX10_init_299 rfl rfl (by decide) ⟨rfl, trivial, trivial, trivial, trivial, trivial, trivial, trivial, trivial, trivial⟩ rfl rfl rfl rfl (by decide) (by decide) rfl ?_
  show Wa _ _ _ _ _ _ _ _ (zR 9 :: _) [_, _, _, _, _, _, _, _, _, zA _ _ _] _ _
  refine wa_putfieldF (pc' := 304) (j := 21) (w' := [zO _ [_, _, _, _, _, _, _, _, _, _, _, _, _, _, _, _, _, _, _, _, _, _, _, _], _, _, _, _, _, _, _, _, _]) zc_X10 lk_X10_43 dX10_init_301 rfl (by decide) rfl rfl rfl rfl (Nat.le_of_ble_eq_true rfl) True.intro rfl ?_
  refine wa_aload_n (pc' := 305) dX10_init_304 rfl rfl rfl ?_
  refine wa_getfield (pc' := 308) (j := 0) zc_X10 lk_X10_7 dX10_init_305 rfl (by decide) rfl rfl ?_
  refine wa_iconst (pc' := 309) dX10_init_308 rfl ?_
  refine wa_iconst (pc' := 310) dX10_init_309 rfl ?_
  refine wa_iastore (pc' := 311) (w' := [_, zA _ _ _, _, _, _, _, _, _, _, _]) dX10_init_310 rfl rfl (by omega) (by omega) (by decide) rfl ?_
  refine wa_vret dX10_init_311 rfl (by decide) (by decide) ?_
  exact zD_i rfl rfl

/-! what binds the two states -/
def zMetW (Y : zY) (d mc ms : Nat) (as : List zV) (w : List zE) (P : zP → List zE → Prop) : Prop := ∃ Q : zP → List zE → Prop, zMet Y d mc ms as w Q ∧ ∀ o w', Q o w' → P o w'
abbrev zMX : Type := (Int → Int) × (Int → Int) × (Int → Int) × Int × Int × Int × Int × Int × Int × Int × (Int → Int) × (Int → Int) × Int × (Int → Int) × (Int → Int) × Int × Int
def Hs (H : Nat → zSh) (ol a : Int) : zSh := H ((ol + a) % 8).toNat
def RelM : zCS → (Int → Int) → (Int → Int) → (Int → Int) → Prop
  | (t, nm, s, D, H, ol, ct, k, y, si, fl, wi), v, pa, tx => okC (t, nm, s, D, H, ol, ct, k, y, si, fl, wi) ∧ okW s ∧ Vr s v ∧ Tr t tx t.1 ∧ (∀ a : Int, 0 ≤ a → a < ct → okW (Hs H ol a) ∧ Vr (Hs H ol a) (fun j => pa (620 * a + j)))
def wMR (c : zCS) (x : zMX) : List zE := wM x.1 x.2.1 c.2.2.2.2.2.2.1 x.2.2.1 c.1.1 c.2.2.2.2.2.2.2.2.2.1 c.2.2.2.2.2.2.2.2.2.2.1 c.2.2.2.2.2.2.2.2.2.2.2 x.2.2.2.1 x.2.2.2.2.1 x.2.2.2.2.2.1 x.2.2.2.2.2.2.1 x.2.2.2.2.2.2.2.1 x.2.2.2.2.2.2.2.2.1 x.2.2.2.2.2.2.2.2.2.1 x.2.2.2.2.2.2.2.2.2.2.1 x.2.2.2.2.2.2.2.2.2.2.2.1 x.2.2.2.2.2.2.2.2.2.2.2.2.1 x.2.2.2.2.2.2.2.2.2.2.2.2.2.1 x.2.2.2.2.2.2.2.2.2.2.2.2.2.2.1 x.2.2.2.2.2.2.2.2.2.2.2.2.2.2.2.1 x.2.2.2.2.2.2.2.2.2.2.2.2.2.2.2.2
/-- the reference's answer and mark, beside the class's answer or exception -/
def agr (cd : String → Int) (r : zP) (b : zV) (th : Int) : Prop := match r with
  | .inl v => v = some b ∧ th = 0
  | .inr E => th = cd E ∧ ∃ n : Int, b = zI n
def Gl (cd : String → Int) (r : zP × zCS) : zP → List zE → Prop := fun o w' => ∃ (x : zMX) (b : zV), RelM r.2 x.1 x.2.1 x.2.2.1 ∧ agr cd r.1 b x.2.2.2.1 ∧ o = .inl (some b) ∧ w' = wMR r.2 x
/-- exceptions in the order in which the law asks for them -/
def cd1 : String → Int := fun _ => 1
def cd2 (E : String) : String → Int := fun e => if e = E then 1 else 2
theorem Gl_i {cd : String → Int} {r : zP × zCS} {o : zP} {w : List zE} {p : zP} {c : zCS} (hr : r = (p, c)) (x : zMX) (b : zV) (h : RelM c x.1 x.2.1 x.2.2.1) (ha : agr cd p b x.2.2.2.1) (ho : o = .inl (some b)) (hw : w = wMR c x) : Gl cd r o w := by
  subst hr
  exact ⟨x, b, h, ha, ho, hw⟩
theorem Vr_cg {s : zSh} {v w : Int → Int} (h : Vr s v) (hw : okW s) (he : ∀ j : Int, 0 ≤ j → j < 620 → w j = v j) : Vr s w := by
  obtain ⟨h0, h1, h2, h3, hT, hF, hL⟩ := h
  have a1 := hw.1.1.1
  have a2 := hw.1.1.2.2.2.1
  have a3 := hw.1.1.2.1
  refine ⟨(he _ (by omega) (by omega)).trans h0, (he _ (by omega) (by omega)).trans h1, (he _ (by omega) (by omega)).trans h2, (he _ (by omega) (by omega)).trans h3, ?_, ?_, ?_⟩
  · intro k k0 k1
    exact (he _ (by omega) (by omega)).trans (hT k k0 k1)
  · intro k k0 k1
    exact (he _ (by omega) (by omega)).trans (hF k k0 k1)
  · intro k k0 k1
    exact (he _ (by omega) (by omega)).trans (hL k k0 k1)
/-- a state more in the ring -/
theorem Hs_keep {H : Nat → zSh} {ol ct : Int} {s : zSh} {v pa : Int → Int} (ho : 0 ≤ ol ∧ ol < 8) (hc : 0 ≤ ct ∧ ct ≤ 8) (hs : okW s) (hv : Vr s v) (h : ∀ a : Int, 0 ≤ a → a < ct → okW (Hs H ol a) ∧ Vr (Hs H ol a) (fun j => pa (620 * a + j))) : ∀ a : Int, 0 ≤ a → a < (if ct < 8 then ct + 1 else ct) → okW (Hs (hup H ((ol + ct) % 8).toNat s) (if ct < 8 then ol else (ol + 1) % 8) a) ∧ Vr (Hs (hup H ((ol + ct) % 8).toNat s) (if ct < 8 then ol else (ol + 1) % 8) a) (fun j => actP v ct pa (620 * a + j)) := by
  intro a a0 a1
  by_cases h8 : ct < 8
  · rw [if_pos h8] at a1 ⊢
    by_cases ha : a = ct
    · have e1 : Hs (hup H ((ol + ct) % 8).toNat s) ol a = s := by
        unfold Hs hup
        rw [ha, if_pos rfl]
      rw [e1]
      refine ⟨hs, Vr_cg hv hs ?_⟩
      intro j j0 j1
      unfold actP
      rw [if_neg (show ¬ ct = 8 by omega), if_pos (by omega)]
      congr 1
      omega
    · have e1 : Hs (hup H ((ol + ct) % 8).toNat s) ol a = Hs H ol a := by
        unfold Hs hup
        rw [if_neg (by omega)]
      rw [e1]
      refine ⟨(h a a0 (by omega)).1, Vr_cg (h a a0 (by omega)).2 (h a a0 (by omega)).1 ?_⟩
      intro j j0 j1
      unfold actP
      rw [if_neg (show ¬ ct = 8 by omega), if_neg (by omega), if_neg (by omega)]
  · rw [if_neg h8] at a1 ⊢
    have e8 : ct = 8 := by omega
    subst e8
    by_cases ha : a = 7
    · have e1 : Hs (hup H ((ol + 8) % 8).toNat s) ((ol + 1) % 8) a = s := by
        unfold Hs hup
        rw [ha, if_pos (by omega)]
      rw [e1]
      refine ⟨hs, Vr_cg hv hs ?_⟩
      intro j j0 j1
      unfold actP
      rw [if_pos rfl, if_pos (by omega)]
      congr 1
      omega
    · have e1 : Hs (hup H ((ol + 8) % 8).toNat s) ((ol + 1) % 8) a = Hs H ol (a + 1) := by
        unfold Hs hup
        rw [if_neg (by omega)]
        congr 2
        omega
      rw [e1]
      refine ⟨(h (a + 1) (by omega) (by omega)).1, Vr_cg (h (a + 1) (by omega) (by omega)).2 (h (a + 1) (by omega) (by omega)).1 ?_⟩
      intro j j0 j1
      unfold actP
      rw [if_pos rfl, if_neg (by omega), if_pos (by omega)]
      congr 1
      omega
theorem okC_H {H : Nat → zSh} {s : zSh} (hs : okZ s) (h : ∀ i : Nat, i < 8 → okZ (H i)) (j : Nat) : ∀ i : Nat, i < 8 → okZ (hup H j s i) := by
  intro i hi
  unfold hup
  split
  · exact hs
  · exact h i hi
