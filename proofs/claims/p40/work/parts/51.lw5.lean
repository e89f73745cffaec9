/-! the walk of rows -/
set_option maxRecDepth 10000 in
set_option maxHeartbeats 4000000 in
theorem l_rows172 {mc ms B1 B2 : Nat} {Post : zP → List zE → Prop} (t nm : zRw) (s D : zSh) (H : Nat → zSh) (ol ct : Int) (k : zKd) (y : zLy) (si fl wi : Int) (h : okC (t, nm, s, D, H, ol, ct, k, y, si, fl, wi)) (hw : okW s) (l w0 w1 f9 n9 : Int) (hl : 0 ≤ l ∧ l < s.2.2.2.1) (hB1 : B1 ≤ mc) (hB2 : B2 ≤ ms) (hn : 1 ≤ n9 ∧ n9 ≤ 1000) (hf : f9 = cB s l (s.2.1 (l + 1) - s.2.1 l).toNat) (K : ∀ (nc1 ns1 : Nat), nc1 ≤ B1 → ns1 ≤ B2 → Wa q_L_rows 11 mc ms 53 Post 8 [(3, zI (l + 1)), (2, zI w0), (0, zR 0), (1, zI w1)] [] (wCS (t, nm, s, D, H, ol, ct, k, y, si, fl, wi)) nc1 ns1) : ∀ (m : Nat) (k9 : Int) (nc ns : Nat), 0 ≤ k9 → k9 + m = (s.2.1 (l + 1) - s.2.1 l) → nc + 3 * m + 1 ≤ B1 → ns + 18 * m + 6 ≤ B2 → Wa q_L_rows 11 mc ms 53 Post 172 [(7, zI k9), (6, zI (cB s l k9.toNat)), (5, zI f9), (4, zI n9), (3, zI l), (2, zI w0), (0, zR 0), (1, zI w1)] [] (wCS (t, nm, s, D, H, ol, ct, k, y, si, fl, wi)) nc ns := by
  obtain ⟨z1, z2, zT1, z4, zF1, zL1⟩ := id hw.1.1
  have t1 := zT1 l (by omega) (by omega)
  have t2 := zT1 (l + 1) (by omega) (by omega)
  have t3 := hw.2.2.1 l (by omega) (by omega)
  have cb := cB_b s l (s.2.1 (l + 1) - s.2.1 l).toNat
  intro m
  induction m with
  | zero =>
    intro k9 nc ns h0 h1 hnc hns
    have e0 : cB s l k9.toNat = f9 := by rw [hf, show k9 = (s.2.1 (l + 1) - s.2.1 l) by omega]
    rw [e0]
    refine wa_iload (pc' := 174) dL_rows_172 rfl rfl ?_
    refine wa_aload_n (pc' := 175) dL_rows_174 rfl rfl rfl ?_
    refine wa_iload_n (pc' := 176) dL_rows_175 rfl rfl rfl ?_
    refine wy_x (pc' := 179) (c0 := (t, nm, s, D, H, ol, ct, k, y, si, fl, wi)) (c1 := (t, nm, s, D, H, ol, ct, k, y, si, fl, wi)) (k_X9_lyrics t nm s D H ol ct k y si fl wi h l ⟨by omega, by omega⟩) (e_lyrics hl) rfl ok_X9_lyrics lm_L_103 dL_rows_176 rfl rfl rfl rfl rfl (Nat.le_of_ble_eq_true rfl) (Nat.le_of_ble_eq_true rfl) rfl (by omega) (by omega) ?_
    refine wa_icmp_ge (tgt := 210) (pc' := 182) dL_rows_179 (by decide) rfl (by omega) (by omega) (fun c179 => ?_) (fun c179 => ?_)
    · refine wa_iload (pc' := 212) dL_rows_210 rfl rfl ?_
      refine wa_iconst (pc' := 213) dL_rows_212 rfl ?_
      refine wa_icmp_lt (tgt := 223) (pc' := 216) dL_rows_213 (by decide) rfl (by omega) (by omega) (fun c213 => ?_) (fun c213 => ?_)
      · exact absurd c213 (by omega)
      · refine wa_iload (pc' := 218) dL_rows_216 rfl rfl ?_
        refine wa_iload (pc' := 220) dL_rows_218 rfl rfl ?_
        refine wa_icmp_eq (tgt := 225) (pc' := 223) dL_rows_220 (by decide) rfl (by omega) (by omega) (fun c220 => ?_) (fun c220 => ?_)
        · refine wa_iinc (pc' := 228) (ls' := [(3, _), (7, _), (6, _), (5, _), (4, _), (2, _), (0, _), (1, _)]) dL_rows_225 rfl rfl (by decide) rfl ?_
          refine wa_goto (pc' := 8) dL_rows_228 (by decide) ?_
          refine wa_sub [0, 5, 6, 7] rfl ?_
          exact K _ _ (by omega) (by omega)
        · exact absurd c220 (by omega)
    · exact absurd c179 (by omega)
  | succ m ih =>
    intro k9 nc ns h0 h1 hnc hns
    have lb := ltr_b zT1 zL1 l k9 ⟨hl.1, by omega⟩
    have cs := cB_s s l h0
    refine wa_iload (pc' := 174) dL_rows_172 rfl rfl ?_
    refine wa_aload_n (pc' := 175) dL_rows_174 rfl rfl rfl ?_
    refine wa_iload_n (pc' := 176) dL_rows_175 rfl rfl rfl ?_
    refine wy_x (pc' := 179) (c0 := (t, nm, s, D, H, ol, ct, k, y, si, fl, wi)) (c1 := (t, nm, s, D, H, ol, ct, k, y, si, fl, wi)) (k_X9_lyrics t nm s D H ol ct k y si fl wi h l ⟨by omega, by omega⟩) (e_lyrics hl) rfl ok_X9_lyrics lm_L_103 dL_rows_176 rfl rfl rfl rfl rfl (Nat.le_of_ble_eq_true rfl) (Nat.le_of_ble_eq_true rfl) rfl (by omega) (by omega) ?_
    refine wa_icmp_ge (tgt := 210) (pc' := 182) dL_rows_179 (by decide) rfl (by omega) (by omega) (fun c179 => ?_) (fun c179 => ?_)
    · exact absurd c179 (by omega)
    · refine wa_iload (pc' := 184) dL_rows_182 rfl rfl ?_
      refine wa_aload_n (pc' := 185) dL_rows_184 rfl rfl rfl ?_
      refine wa_iload_n (pc' := 186) dL_rows_185 rfl rfl rfl ?_
      refine wa_iload (pc' := 188) dL_rows_186 rfl rfl ?_
      refine wy_x (pc' := 191) (c0 := (t, nm, s, D, H, ol, ct, k, y, si, fl, wi)) (c1 := (t, nm, s, D, H, ol, ct, k, y, si, fl, wi)) (k_X9_lyric t nm s D H ol ct k y si fl wi h l ⟨by omega, by omega⟩ k9 ⟨by omega, by omega⟩) (e_lyric hl (by omega)) rfl ok_X9_lyric lm_L_184 dL_rows_188 rfl rfl rfl rfl rfl (Nat.le_of_ble_eq_true rfl) (Nat.le_of_ble_eq_true rfl) rfl (by omega) (by omega) ?_
      refine wa_bipush (pc' := 193) dL_rows_191 rfl rfl ?_
      refine wa_icmp_eq (tgt := 200) (pc' := 196) dL_rows_193 (by decide) rfl (by omega) (by omega) (fun c193 => ?_) (fun c193 => ?_)
      · refine wa_iconst (pc' := 201) dL_rows_200 rfl ?_
        refine wa_iadd (pc' := 202) dL_rows_201 rfl ?_
        refine wa_istore (pc' := 204) (ls' := [(6, _), (7, _), (5, _), (4, _), (3, _), (2, _), (0, _), (1, _)]) dL_rows_202 rfl (by decide) rfl ?_
        refine wa_iinc (pc' := 207) (ls' := [(7, _), (6, _), (5, _), (4, _), (3, _), (2, _), (0, _), (1, _)]) dL_rows_204 rfl rfl (by decide) rfl ?_
        refine wa_goto (pc' := 172) dL_rows_207 (by decide) ?_
        refine wa_sub [0, 1, 2, 3, 4, 5, 6, 7] rfl ?_
        first | (have e : cB s l (k9 + 1).toNat = cB s l k9.toNat + 1 := by rw [cs, if_neg (by omega)]) | (have e : cB s l (k9 + 1).toNat = cB s l k9.toNat + 0 := by rw [cs, if_pos (by omega)])
        rw [← e]
        exact ih (k9 + 1) _ _ (by omega) (by omega) (by omega) (by omega)
      · refine wa_iconst (pc' := 197) dL_rows_196 rfl ?_
        refine wa_goto (pc' := 201) dL_rows_197 (by decide) ?_
        refine wa_iadd (pc' := 202) dL_rows_201 rfl ?_
        refine wa_istore (pc' := 204) (ls' := [(6, _), (7, _), (5, _), (4, _), (3, _), (2, _), (0, _), (1, _)]) dL_rows_202 rfl (by decide) rfl ?_
        refine wa_iinc (pc' := 207) (ls' := [(7, _), (6, _), (5, _), (4, _), (3, _), (2, _), (0, _), (1, _)]) dL_rows_204 rfl rfl (by decide) rfl ?_
        refine wa_goto (pc' := 172) dL_rows_207 (by decide) ?_
        refine wa_sub [0, 1, 2, 3, 4, 5, 6, 7] rfl ?_
        first | (have e : cB s l (k9 + 1).toNat = cB s l k9.toNat + 1 := by rw [cs, if_neg (by omega)]) | (have e : cB s l (k9 + 1).toNat = cB s l k9.toNat + 0 := by rw [cs, if_pos (by omega)])
        rw [← e]
        exact ih (k9 + 1) _ _ (by omega) (by omega) (by omega) (by omega)
set_option maxRecDepth 10000 in
set_option maxHeartbeats 4000000 in
theorem l_rows111 {mc ms B1 B2 : Nat} {Post : zP → List zE → Prop} (t nm : zRw) (s D : zSh) (H : Nat → zSh) (ol ct : Int) (k : zKd) (y : zLy) (si fl wi : Int) (h : okC (t, nm, s, D, H, ol, ct, k, y, si, fl, wi)) (hw : okW s) (l p9 w0 w1 n9 u9 f0 : Int) (hl : 0 ≤ l ∧ l < s.2.2.2.1) (hp : 0 ≤ p9 ∧ p9 < prF s l wi) (hB1 : B1 ≤ mc) (hB2 : B2 ≤ ms) (K : ∀ (y1 : zLy) (nc1 ns1 : Nat), okQ y1 → nc1 ≤ B1 → ns1 ≤ B2 → Wa q_L_rows 11 mc ms 53 Post 29 [(6, zI (p9 + 1)), (5, zI (f0 + cR (RW s l wi p9 1).2 (RW s l wi p9 1).1.toNat)), (4, zI n9), (3, zI l), (2, zI w0), (0, zR 0), (1, zI w1)] [] (wCS (t, nm, s, D, H, ol, ct, k, y1, si, fl, wi)) nc1 ns1) : ∀ (m : Nat) (k9 : Int) (y1 : zLy) (nc ns : Nat), 0 ≤ k9 → k9 + m = (RW s l wi p9 1).1 → okQ y1 → nc + 2 * m ≤ B1 → ns + 12 * m ≤ B2 → Wa q_L_rows 11 mc ms 53 Post 111 [(9, zI k9), (8, zI (RW s l wi p9 1).1), (7, zI u9), (6, zI p9), (5, zI (f0 + cR (RW s l wi p9 1).2 k9.toNat)), (4, zI n9), (3, zI l), (2, zI w0), (0, zR 0), (1, zI w1)] [] (wCS (t, nm, s, D, H, ol, ct, k, y1, si, fl, wi)) nc ns := by
  obtain ⟨z1, z2, zT1, z4, zF1, zL1⟩ := id hw.1.1
  obtain ⟨rb1, rb2⟩ := RW_b hw wi p9 1 hl
  have h201 := prF_201 hw (w := wi) hl
  intro m
  induction m with
  | zero =>
    intro k9 y1 nc ns h0 h1 hq hnc hns
    rw [show k9 = (RW s l wi p9 1).1 by omega]
    refine wa_iload (pc' := 113) dL_rows_111 rfl rfl ?_
    refine wa_iload (pc' := 115) dL_rows_113 rfl rfl ?_
    refine wa_icmp_ge (tgt := 160) (pc' := 118) dL_rows_115 (by decide) rfl (by omega) (by omega) (fun c115 => ?_) (fun c115 => ?_)
    · refine wa_iinc (pc' := 163) (ls' := [(6, _), (9, _), (8, _), (7, _), (5, _), (4, _), (3, _), (2, _), (0, _), (1, _)]) dL_rows_160 rfl rfl (by decide) rfl ?_
      refine wa_goto (pc' := 29) dL_rows_163 (by decide) ?_
      refine wa_sub [0, 4, 5, 6, 7, 8, 9] rfl ?_
      exact K y1 _ _ hq (by omega) (by omega)
    · exact absurd c115 (by omega)
  | succ m ih =>
    intro k9 y1 nc ns h0 h1 hq hnc hns
    have rc := rb2 k9 h0 (by omega)
    have cs := cR_s (RW s l wi p9 1).2 h0
    refine wa_iload (pc' := 113) dL_rows_111 rfl rfl ?_
    refine wa_iload (pc' := 115) dL_rows_113 rfl rfl ?_
    refine wa_icmp_ge (tgt := 160) (pc' := 118) dL_rows_115 (by decide) rfl (by omega) (by omega) (fun c115 => ?_) (fun c115 => ?_)
    · exact absurd c115 (by omega)
    · refine wa_aload_n (pc' := 119) dL_rows_118 rfl rfl rfl ?_
      refine wa_iload_n (pc' := 120) dL_rows_119 rfl rfl rfl ?_
      refine wa_iload (pc' := 122) dL_rows_120 rfl rfl ?_
      refine wa_iconst (pc' := 123) dL_rows_122 rfl ?_
      refine wa_iload (pc' := 125) dL_rows_123 rfl rfl ?_
      obtain ⟨y2, hq2, r2⟩ := e_rowChr (okC_y h hq) hw (l := l) (p := p9) (kd := 1) (c := k9) hl hp (Or.inr rfl) h0
      rw [if_pos (show 0 ≤ k9 ∧ k9 < (RW s l wi p9 1).1 by omega)] at r2
      refine wy_x (pc' := 128) (c0 := (t, nm, s, D, H, ol, ct, k, y1, si, fl, wi)) (c1 := (t, nm, s, D, H, ol, ct, k, y2, si, fl, wi)) (v := zI ((RW s l wi p9 1).2 k9)) (k_X9_rowChar t nm s D H ol ct k y1 si fl wi (okC_y h hq) l ⟨by omega, by omega⟩ p9 ⟨by omega, by omega⟩ 1 ⟨by omega, by omega⟩ k9 ⟨by omega, by omega⟩) (r2) rfl ok_X9_rowChar lm_L_180 dL_rows_125 rfl rfl rfl rfl rfl (Nat.le_of_ble_eq_true rfl) (Nat.le_of_ble_eq_true rfl) rfl (by omega) (by omega) ?_
      refine wa_istore (pc' := 130) (ls' := [(10, _), (9, _), (8, _), (7, _), (6, _), (5, _), (4, _), (3, _), (2, _), (0, _), (1, _)]) dL_rows_128 rfl (by decide) rfl ?_
      refine wa_iload (pc' := 132) dL_rows_130 rfl rfl ?_
      refine wa_iload (pc' := 134) dL_rows_132 rfl rfl ?_
      refine wa_bipush (pc' := 136) dL_rows_134 rfl rfl ?_
      refine wa_icmp_eq (tgt := 150) (pc' := 139) dL_rows_136 (by decide) rfl (by omega) (by omega) (fun c136 => ?_) (fun c136 => ?_)
      · refine wa_iconst (pc' := 151) dL_rows_150 rfl ?_
        refine wa_iadd (pc' := 152) dL_rows_151 rfl ?_
        refine wa_istore (pc' := 154) (ls' := [(5, _), (10, _), (9, _), (8, _), (7, _), (6, _), (4, _), (3, _), (2, _), (0, _), (1, _)]) dL_rows_152 rfl (by decide) rfl ?_
        refine wa_iinc (pc' := 157) (ls' := [(9, _), (5, _), (10, _), (8, _), (7, _), (6, _), (4, _), (3, _), (2, _), (0, _), (1, _)]) dL_rows_154 rfl rfl (by decide) rfl ?_
        refine wa_goto (pc' := 111) dL_rows_157 (by decide) ?_
        refine wa_sub [0, 3, 4, 5, 1, 6, 7, 8, 9, 10] rfl ?_
        first | (have e : f0 + cR (RW s l wi p9 1).2 (k9 + 1).toNat = f0 + cR (RW s l wi p9 1).2 k9.toNat + 1 := by rw [cs, show isG ((RW s l wi p9 1).2 k9) = 1 from if_neg (by omega)]; omega) | (have e : f0 + cR (RW s l wi p9 1).2 (k9 + 1).toNat = f0 + cR (RW s l wi p9 1).2 k9.toNat + 0 := by rw [cs, show isG ((RW s l wi p9 1).2 k9) = 0 from if_pos (by omega)]; omega)
        rw [← e]
        exact ih (k9 + 1) y2 _ _ (by omega) (by omega) hq2 (by omega) (by omega)
      · refine wa_iload (pc' := 141) dL_rows_139 rfl rfl ?_
        refine wa_bipush (pc' := 143) dL_rows_141 rfl rfl ?_
        refine wa_icmp_eq (tgt := 150) (pc' := 146) dL_rows_143 (by decide) rfl (by omega) (by omega) (fun c143 => ?_) (fun c143 => ?_)
        · refine wa_iconst (pc' := 151) dL_rows_150 rfl ?_
          refine wa_iadd (pc' := 152) dL_rows_151 rfl ?_
          refine wa_istore (pc' := 154) (ls' := [(5, _), (10, _), (9, _), (8, _), (7, _), (6, _), (4, _), (3, _), (2, _), (0, _), (1, _)]) dL_rows_152 rfl (by decide) rfl ?_
          refine wa_iinc (pc' := 157) (ls' := [(9, _), (5, _), (10, _), (8, _), (7, _), (6, _), (4, _), (3, _), (2, _), (0, _), (1, _)]) dL_rows_154 rfl rfl (by decide) rfl ?_
          refine wa_goto (pc' := 111) dL_rows_157 (by decide) ?_
          refine wa_sub [0, 3, 4, 5, 1, 6, 7, 8, 9, 10] rfl ?_
          first | (have e : f0 + cR (RW s l wi p9 1).2 (k9 + 1).toNat = f0 + cR (RW s l wi p9 1).2 k9.toNat + 1 := by rw [cs, show isG ((RW s l wi p9 1).2 k9) = 1 from if_neg (by omega)]; omega) | (have e : f0 + cR (RW s l wi p9 1).2 (k9 + 1).toNat = f0 + cR (RW s l wi p9 1).2 k9.toNat + 0 := by rw [cs, show isG ((RW s l wi p9 1).2 k9) = 0 from if_pos (by omega)]; omega)
          rw [← e]
          exact ih (k9 + 1) y2 _ _ (by omega) (by omega) hq2 (by omega) (by omega)
        · refine wa_iconst (pc' := 147) dL_rows_146 rfl ?_
          refine wa_goto (pc' := 151) dL_rows_147 (by decide) ?_
          refine wa_iadd (pc' := 152) dL_rows_151 rfl ?_
          refine wa_istore (pc' := 154) (ls' := [(5, _), (10, _), (9, _), (8, _), (7, _), (6, _), (4, _), (3, _), (2, _), (0, _), (1, _)]) dL_rows_152 rfl (by decide) rfl ?_
          refine wa_iinc (pc' := 157) (ls' := [(9, _), (5, _), (10, _), (8, _), (7, _), (6, _), (4, _), (3, _), (2, _), (0, _), (1, _)]) dL_rows_154 rfl rfl (by decide) rfl ?_
          refine wa_goto (pc' := 111) dL_rows_157 (by decide) ?_
          refine wa_sub [0, 3, 4, 5, 1, 6, 7, 8, 9, 10] rfl ?_
          first | (have e : f0 + cR (RW s l wi p9 1).2 (k9 + 1).toNat = f0 + cR (RW s l wi p9 1).2 k9.toNat + 1 := by rw [cs, show isG ((RW s l wi p9 1).2 k9) = 1 from if_neg (by omega)]; omega) | (have e : f0 + cR (RW s l wi p9 1).2 (k9 + 1).toNat = f0 + cR (RW s l wi p9 1).2 k9.toNat + 0 := by rw [cs, show isG ((RW s l wi p9 1).2 k9) = 0 from if_pos (by omega)]; omega)
          rw [← e]
          exact ih (k9 + 1) y2 _ _ (by omega) (by omega) hq2 (by omega) (by omega)
set_option maxRecDepth 10000 in
set_option maxHeartbeats 4000000 in
theorem l_rows29 {mc ms B1 B2 : Nat} {Post : zP → List zE → Prop} (t nm : zRw) (s D : zSh) (H : Nat → zSh) (ol ct : Int) (k : zKd) (y : zLy) (si fl wi : Int) (h : okC (t, nm, s, D, H, ol, ct, k, y, si, fl, wi)) (hw : okW s) (hh : noH s) (l w0 w1 n9 : Int) (hl : 0 ≤ l ∧ l < s.2.2.2.1) (hn9 : n9 = prF s l wi) (hB1 : B1 ≤ mc) (hB2 : B2 ≤ ms) (K : ∀ (y1 : zLy) (nc1 ns1 : Nat), okQ y1 → nc1 ≤ B1 → ns1 ≤ B2 → Wa q_L_rows 11 mc ms 53 Post 8 [(3, zI (l + 1)), (2, zI w0), (0, zR 0), (1, zI w1)] [] (wCS (t, nm, s, D, H, ol, ct, k, y1, si, fl, wi)) nc1 ns1) : ∀ (m : Nat) (p9 : Int) (y1 : zLy) (nc ns : Nat), 0 ≤ p9 → p9 + m = n9 → okQ y1 → nc + 1368 * m + 3 * (s.2.1 (l + 1) - s.2.1 l).toNat + 1 ≤ B1 → ns + 8208 * m + 18 * (s.2.1 (l + 1) - s.2.1 l).toNat + 6 ≤ B2 → Wa q_L_rows 11 mc ms 53 Post 29 [(6, zI p9), (5, zI (cB s l (itR s l wi p9.toNat 0).toNat)), (4, zI n9), (3, zI l), (2, zI w0), (0, zR 0), (1, zI w1)] [] (wCS (t, nm, s, D, H, ol, ct, k, y1, si, fl, wi)) nc ns := by
  obtain ⟨z1, z2, zT1, z4, zF1, zL1⟩ := id hw.1.1
  have t1 := zT1 l (by omega) (by omega)
  have t2 := zT1 (l + 1) (by omega) (by omega)
  have t3 := hw.2.2.1 l (by omega) (by omega)
  have h201 := prF_201 hw (w := wi) hl
  obtain ⟨hpf, hit⟩ := prF_it (s := s) (l := l) (w := wi) ⟨by omega, by omega⟩
  intro m
  induction m with
  | zero =>
    intro p9 y1 nc ns h0 h1 hq1 hnc hns
    rw [show p9 = prF s l wi by omega, hit]
    refine wa_iload (pc' := 31) dL_rows_29 rfl rfl ?_
    refine wa_iload (pc' := 33) dL_rows_31 rfl rfl ?_
    refine wa_icmp_ge (tgt := 166) (pc' := 36) dL_rows_33 (by decide) rfl (by omega) (by omega) (fun c33 => ?_) (fun c33 => ?_)
    · refine wa_iconst (pc' := 167) dL_rows_166 rfl ?_
      refine wa_istore (pc' := 169) (ls' := [(6, _), (5, _), (4, _), (3, _), (2, _), (0, _), (1, _)]) dL_rows_167 rfl (by decide) rfl ?_
      refine wa_iconst (pc' := 170) dL_rows_169 rfl ?_
      refine wa_istore (pc' := 172) (ls' := [(7, _), (6, _), (5, _), (4, _), (3, _), (2, _), (0, _), (1, _)]) dL_rows_170 rfl (by decide) rfl ?_
      refine wa_sub [0, 1, 2, 3, 4, 5, 6, 7] rfl ?_
      exact l_rows172 t nm s D H ol ct k y1 si fl wi (okC_y h hq1) hw l w0 w1 _ n9 hl hB1 hB2 (by omega) rfl (fun nc1 ns1 g1 g2 => K y1 nc1 ns1 hq1 g1 g2) (s.2.1 (l + 1) - s.2.1 l).toNat 0 _ _ (by decide) (by omega) (by omega) (by omega)
    · exact absurd c33 (by omega)
  | succ m ih =>
    intro p9 y1 nc ns h0 h1 hq1 hnc hns
    have hp : 0 ≤ p9 ∧ p9 < prF s l wi := ⟨h0, by omega⟩
    obtain ⟨ra1, ra2⟩ := RW_b hw wi p9 0 hl
    obtain ⟨rb1, rb2⟩ := RW_b hw wi p9 1 hl
    have hen := (RW_end hw l wi p9).2
    refine wa_iload (pc' := 31) dL_rows_29 rfl rfl ?_
    refine wa_iload (pc' := 33) dL_rows_31 rfl rfl ?_
    refine wa_icmp_ge (tgt := 166) (pc' := 36) dL_rows_33 (by decide) rfl (by omega) (by omega) (fun c33 => ?_) (fun c33 => ?_)
    · exact absurd c33 (by omega)
    · refine wa_aload_n (pc' := 37) dL_rows_36 rfl rfl rfl ?_
      refine wa_iload_n (pc' := 38) dL_rows_37 rfl rfl rfl ?_
      refine wa_iload (pc' := 40) dL_rows_38 rfl rfl ?_
      refine wa_iconst (pc' := 41) dL_rows_40 rfl ?_
      obtain ⟨y2, hq2, r2⟩ := e_rowLen (okC_y h hq1) hw (l := l) (p := p9) (kd := 0) hl hp (Or.inl rfl)
      refine wy_x (pc' := 44) (c0 := (t, nm, s, D, H, ol, ct, k, y1, si, fl, wi)) (c1 := (t, nm, s, D, H, ol, ct, k, y2, si, fl, wi)) (k_X9_rowLength t nm s D H ol ct k y1 si fl wi (okC_y h hq1) l ⟨by omega, by omega⟩ p9 ⟨by omega, by omega⟩ 0 ⟨by omega, by omega⟩) (r2) rfl ok_X9_rowLength lm_L_176 dL_rows_41 rfl rfl rfl rfl rfl (Nat.le_of_ble_eq_true rfl) (Nat.le_of_ble_eq_true rfl) rfl (by omega) (by omega) ?_
      refine wa_istore (pc' := 46) (ls' := [(7, _), (6, _), (5, _), (4, _), (3, _), (2, _), (0, _), (1, _)]) dL_rows_44 rfl (by decide) rfl ?_
      refine wa_aload_n (pc' := 47) dL_rows_46 rfl rfl rfl ?_
      refine wa_iload_n (pc' := 48) dL_rows_47 rfl rfl rfl ?_
      refine wa_iload (pc' := 50) dL_rows_48 rfl rfl ?_
      refine wa_iconst (pc' := 51) dL_rows_50 rfl ?_
      obtain ⟨y3, hq3, r3⟩ := e_rowLen (okC_y h hq2) hw (l := l) (p := p9) (kd := 1) hl hp (Or.inr rfl)
      refine wy_x (pc' := 54) (c0 := (t, nm, s, D, H, ol, ct, k, y2, si, fl, wi)) (c1 := (t, nm, s, D, H, ol, ct, k, y3, si, fl, wi)) (k_X9_rowLength t nm s D H ol ct k y2 si fl wi (okC_y h hq2) l ⟨by omega, by omega⟩ p9 ⟨by omega, by omega⟩ 1 ⟨by omega, by omega⟩) (r3) rfl ok_X9_rowLength lm_L_176 dL_rows_51 rfl rfl rfl rfl rfl (Nat.le_of_ble_eq_true rfl) (Nat.le_of_ble_eq_true rfl) rfl (by omega) (by omega) ?_
      refine wa_istore (pc' := 56) (ls' := [(8, _), (7, _), (6, _), (5, _), (4, _), (3, _), (2, _), (0, _), (1, _)]) dL_rows_54 rfl (by decide) rfl ?_
      refine wa_aload_n (pc' := 57) dL_rows_56 rfl rfl rfl ?_
      refine wa_iload_n (pc' := 58) dL_rows_57 rfl rfl rfl ?_
      refine wa_iload (pc' := 60) dL_rows_58 rfl rfl ?_
      refine wa_iconst (pc' := 61) dL_rows_60 rfl ?_
      refine wa_iload (pc' := 63) dL_rows_61 rfl rfl ?_
      obtain ⟨y4, hq4, r4⟩ := e_rowChr (okC_y h hq3) hw (l := l) (p := p9) (kd := 0) (c := (RW s l wi p9 0).1) hl hp (Or.inl rfl) (by omega)
      rw [if_neg (show ¬ (0 ≤ (RW s l wi p9 0).1 ∧ (RW s l wi p9 0).1 < (RW s l wi p9 0).1) by omega)] at r4
      refine wy_x (pc' := 66) (c0 := (t, nm, s, D, H, ol, ct, k, y3, si, fl, wi)) (c1 := (t, nm, s, D, H, ol, ct, k, y4, si, fl, wi)) (v := zI (-1)) (k_X9_rowChar t nm s D H ol ct k y3 si fl wi (okC_y h hq3) l ⟨by omega, by omega⟩ p9 ⟨by omega, by omega⟩ 0 ⟨by omega, by omega⟩ (RW s l wi p9 0).1 ⟨by omega, by omega⟩) (r4) rfl ok_X9_rowChar lm_L_180 dL_rows_63 rfl rfl rfl rfl rfl (Nat.le_of_ble_eq_true rfl) (Nat.le_of_ble_eq_true rfl) rfl (by omega) (by omega) ?_
      refine wa_iconst (pc' := 67) dL_rows_66 rfl ?_
      refine wa_icmp_ne (tgt := 106) (pc' := 70) dL_rows_67 (by decide) rfl (by omega) (by omega) (fun c67 => ?_) (fun c67 => ?_)
      · exact absurd c67 (by omega)
      · refine wa_aload_n (pc' := 71) dL_rows_70 rfl rfl rfl ?_
        refine wa_iload_n (pc' := 72) dL_rows_71 rfl rfl rfl ?_
        refine wa_iload (pc' := 74) dL_rows_72 rfl rfl ?_
        refine wa_iconst (pc' := 75) dL_rows_74 rfl ?_
        refine wa_iload (pc' := 77) dL_rows_75 rfl rfl ?_
        obtain ⟨y5, hq5, r5⟩ := e_rowChr (okC_y h hq4) hw (l := l) (p := p9) (kd := 1) (c := (RW s l wi p9 1).1) hl hp (Or.inr rfl) (by omega)
        rw [if_neg (show ¬ (0 ≤ (RW s l wi p9 1).1 ∧ (RW s l wi p9 1).1 < (RW s l wi p9 1).1) by omega)] at r5
        refine wy_x (pc' := 80) (c0 := (t, nm, s, D, H, ol, ct, k, y4, si, fl, wi)) (c1 := (t, nm, s, D, H, ol, ct, k, y5, si, fl, wi)) (v := zI (-1)) (k_X9_rowChar t nm s D H ol ct k y4 si fl wi (okC_y h hq4) l ⟨by omega, by omega⟩ p9 ⟨by omega, by omega⟩ 1 ⟨by omega, by omega⟩ (RW s l wi p9 1).1 ⟨by omega, by omega⟩) (r5) rfl ok_X9_rowChar lm_L_180 dL_rows_77 rfl rfl rfl rfl rfl (Nat.le_of_ble_eq_true rfl) (Nat.le_of_ble_eq_true rfl) rfl (by omega) (by omega) ?_
        refine wa_iconst (pc' := 81) dL_rows_80 rfl ?_
        refine wa_icmp_ne (tgt := 106) (pc' := 84) dL_rows_81 (by decide) rfl (by omega) (by omega) (fun c81 => ?_) (fun c81 => ?_)
        · exact absurd c81 (by omega)
        · refine wa_iload (pc' := 86) dL_rows_84 rfl rfl ?_
          refine wa_if_le (tgt := 108) (pc' := 89) dL_rows_86 (by decide) rfl (by omega) (fun c86 => ?_) (fun c86 => ?_)
          · refine wa_iconst (pc' := 109) dL_rows_108 rfl ?_
            refine wa_istore (pc' := 111) (ls' := [(9, _), (8, _), (7, _), (6, _), (5, _), (4, _), (3, _), (2, _), (0, _), (1, _)]) dL_rows_109 rfl (by decide) rfl ?_
            refine wa_sub [0, 1, 2, 3, 4, 5, 6, 7, 8, 9] rfl ?_
            have e0 : cB s l (itR s l wi p9.toNat 0).toNat = cB s l (itR s l wi p9.toNat 0).toNat + cR (RW s l wi p9 1).2 (0 : Int).toNat := by show _ = _ + cR (RW s l wi p9 1).2 0; rw [cR]; omega
            rw [e0]
            refine l_rows111 (B1 := nc + 1368) (B2 := ns + 8208) t nm s D H ol ct k y si fl wi h hw l p9 w0 w1 n9 (RW s l wi p9 0).1 (cB s l (itR s l wi p9.toNat 0).toNat) hl hp (by omega) (by omega) (fun y9 nc1 ns1 g1 g2 g3 => ?_) (RW s l wi p9 1).1.toNat 0 y5 _ _ (by decide) (by omega) (by assumption) (by omega) (by omega)
            rw [RW_cnt hw hh wi hl hp.1]
            exact ih (p9 + 1) y9 nc1 ns1 (by omega) (by omega) g1 (by omega) (by omega)
          · have hen := hen (by omega)
            have hrx := ra2 ((RW s l wi p9 0).1 - 1) (by omega) (by omega)
            refine wa_aload_n (pc' := 90) dL_rows_89 rfl rfl rfl ?_
            refine wa_iload_n (pc' := 91) dL_rows_90 rfl rfl rfl ?_
            refine wa_iload (pc' := 93) dL_rows_91 rfl rfl ?_
            refine wa_iconst (pc' := 94) dL_rows_93 rfl ?_
            refine wa_iload (pc' := 96) dL_rows_94 rfl rfl ?_
            refine wa_iconst (pc' := 97) dL_rows_96 rfl ?_
            refine wa_isub (pc' := 98) dL_rows_97 rfl ?_
            obtain ⟨y6, hq6, r6⟩ := e_rowChr (okC_y h hq5) hw (l := l) (p := p9) (kd := 0) (c := ((RW s l wi p9 0).1 - 1)) hl hp (Or.inl rfl) (by omega)
            rw [if_pos (show 0 ≤ (RW s l wi p9 0).1 - 1 ∧ (RW s l wi p9 0).1 - 1 < (RW s l wi p9 0).1 by omega)] at r6
            refine wy_x (pc' := 101) (c0 := (t, nm, s, D, H, ol, ct, k, y5, si, fl, wi)) (c1 := (t, nm, s, D, H, ol, ct, k, y6, si, fl, wi)) (v := zI ((RW s l wi p9 0).2 ((RW s l wi p9 0).1 - 1))) (k_X9_rowChar t nm s D H ol ct k y5 si fl wi (okC_y h hq5) l ⟨by omega, by omega⟩ p9 ⟨by omega, by omega⟩ 0 ⟨by omega, by omega⟩ ((RW s l wi p9 0).1 - 1) ⟨by omega, by omega⟩) (r6) rfl ok_X9_rowChar lm_L_180 dL_rows_98 rfl rfl rfl rfl rfl (Nat.le_of_ble_eq_true rfl) (Nat.le_of_ble_eq_true rfl) rfl (by omega) (by omega) ?_
            refine wa_bipush (pc' := 103) dL_rows_101 rfl rfl ?_
            refine wa_icmp_ne (tgt := 108) (pc' := 106) dL_rows_103 (by decide) rfl (by omega) (by omega) (fun c103 => ?_) (fun c103 => ?_)
            · refine wa_iconst (pc' := 109) dL_rows_108 rfl ?_
              refine wa_istore (pc' := 111) (ls' := [(9, _), (8, _), (7, _), (6, _), (5, _), (4, _), (3, _), (2, _), (0, _), (1, _)]) dL_rows_109 rfl (by decide) rfl ?_
              refine wa_sub [0, 1, 2, 3, 4, 5, 6, 7, 8, 9] rfl ?_
              have e0 : cB s l (itR s l wi p9.toNat 0).toNat = cB s l (itR s l wi p9.toNat 0).toNat + cR (RW s l wi p9 1).2 (0 : Int).toNat := by show _ = _ + cR (RW s l wi p9 1).2 0; rw [cR]; omega
              rw [e0]
              refine l_rows111 (B1 := nc + 1368) (B2 := ns + 8208) t nm s D H ol ct k y si fl wi h hw l p9 w0 w1 n9 (RW s l wi p9 0).1 (cB s l (itR s l wi p9.toNat 0).toNat) hl hp (by omega) (by omega) (fun y9 nc1 ns1 g1 g2 g3 => ?_) (RW s l wi p9 1).1.toNat 0 y6 _ _ (by decide) (by omega) (by assumption) (by omega) (by omega)
              rw [RW_cnt hw hh wi hl hp.1]
              exact ih (p9 + 1) y9 nc1 ns1 (by omega) (by omega) g1 (by omega) (by omega)
            · exact absurd c103 (by omega)
set_option maxRecDepth 10000 in
set_option maxHeartbeats 4000000 in
theorem l_rows8 (t nm : zRw) (s D : zSh) (H : Nat → zSh) (ol ct : Int) (k : zKd) (y : zLy) (si fl wi : Int) (h : okC (t, nm, s, D, H, ol, ct, k, y, si, fl, wi)) (hw : okW s) (hh : noH s) (w0 : Int) (hw0 : 10 ≤ w0 ∧ w0 ≤ 200) : ∀ (m : Nat) (l : Int) (y1 : zLy) (nc ns : Nat), 0 ≤ l → l + m = s.2.2.2.1 → okQ y1 → nc + 1371 * (s.2.1 s.2.2.2.1 - s.2.1 l + s.2.2.2.1 - l).toNat + 1 ≤ 549900 → ns + 8226 * (s.2.1 s.2.2.2.1 - s.2.1 l + s.2.2.2.1 - l).toNat + 6 ≤ 3299000 → Wa q_L_rows 11 549900 3299000 53 (zLP fun v c => v = zI 1 ∧ ∃ y1 : zLy, okQ y1 ∧ c = (t, nm, s, D, H, ol, ct, k, y1, si, fl, w0)) 8 [(3, zI l), (2, zI w0), (0, zR 0), (1, zI wi)] [] (wCS (t, nm, s, D, H, ol, ct, k, y1, si, fl, wi)) nc ns := by
  obtain ⟨z1, z2, zT1, z4, zF1, zL1⟩ := id hw.1.1
  have hwi : 10 ≤ wi ∧ wi ≤ 200 := h.2.2.2.2.2.2.2.2.2.2.2
  intro m
  induction m with
  | zero =>
    intro l y1 nc ns h0 h1 hq1 hnc hns
    refine wa_iload_n (pc' := 9) dL_rows_8 rfl rfl rfl ?_
    refine wa_aload_n (pc' := 10) dL_rows_9 rfl rfl rfl ?_
    refine wy_x (pc' := 13) (c0 := (t, nm, s, D, H, ol, ct, k, y1, si, fl, wi)) (c1 := (t, nm, s, D, H, ol, ct, k, y1, si, fl, wi)) (k_X9_lines t nm s D H ol ct k y1 si fl wi (okC_y h hq1)) (rfl) rfl ok_X9_lines lm_L_96 dL_rows_10 rfl rfl rfl rfl rfl (Nat.le_of_ble_eq_true rfl) (Nat.le_of_ble_eq_true rfl) rfl (by omega) (by omega) ?_
    refine wa_icmp_ge (tgt := 231) (pc' := 16) dL_rows_13 (by decide) rfl (by omega) (by omega) (fun c13 => ?_) (fun c13 => ?_)
    · refine wa_aload_n (pc' := 232) dL_rows_231 rfl rfl rfl ?_
      refine wa_iload_n (pc' := 233) dL_rows_232 rfl rfl rfl ?_
      refine wy_x (pc' := 236) (c0 := (t, nm, s, D, H, ol, ct, k, y1, si, fl, wi)) (c1 := (t, nm, s, D, H, ol, ct, k, y1, si, fl, w0)) (k_X9_setWidth t nm s D H ol ct k y1 si fl wi (okC_y h hq1) w0 ⟨by omega, by omega⟩) (e_setWidth hw0) rfl ok_X9_setWidth lm_L_170 dL_rows_233 rfl rfl rfl rfl rfl (Nat.le_of_ble_eq_true rfl) (Nat.le_of_ble_eq_true rfl) rfl (by omega) (by omega) ?_
      refine wa_iload_n (pc' := 237) dL_rows_236 rfl rfl rfl ?_
      refine wa_icmp_ne (tgt := 244) (pc' := 240) dL_rows_237 (by decide) rfl (by omega) (by omega) (fun c237 => ?_) (fun c237 => ?_)
      · exact absurd c237 (by omega)
      · refine wa_iconst (pc' := 241) dL_rows_240 rfl ?_
        refine wa_goto (pc' := 245) dL_rows_241 (by decide) ?_
        refine wa_zret dL_rows_245 rfl (by omega) (by omega) (by omega) ?_
        exact zLP_i ⟨rfl, y1, hq1, rfl⟩ rfl
    · exact absurd c13 (by omega)
  | succ m ih =>
    intro l y1 nc ns h0 h1 hq1 hnc hns
    have hl : 0 ≤ l ∧ l < s.2.2.2.1 := by omega
    have t1 := zT1 l (by omega) (by omega)
    have t2 := zT1 (l + 1) (by omega) (by omega)
    have t3 := hw.2.2.1 l (by omega) (by omega)
    have t4 := T_mono hw.2.2.1 m (l + 1) (by omega) (by omega)
    rw [show l + 1 + (m : Int) = s.2.2.2.1 by omega] at t4
    have h201 := prF_201 hw (w := wi) hl
    obtain ⟨hpf, hit⟩ := prF_it (s := s) (l := l) (w := wi) ⟨by omega, by omega⟩
    refine wa_iload_n (pc' := 9) dL_rows_8 rfl rfl rfl ?_
    refine wa_aload_n (pc' := 10) dL_rows_9 rfl rfl rfl ?_
    refine wy_x (pc' := 13) (c0 := (t, nm, s, D, H, ol, ct, k, y1, si, fl, wi)) (c1 := (t, nm, s, D, H, ol, ct, k, y1, si, fl, wi)) (k_X9_lines t nm s D H ol ct k y1 si fl wi (okC_y h hq1)) (rfl) rfl ok_X9_lines lm_L_96 dL_rows_10 rfl rfl rfl rfl rfl (Nat.le_of_ble_eq_true rfl) (Nat.le_of_ble_eq_true rfl) rfl (by omega) (by omega) ?_
    refine wa_icmp_ge (tgt := 231) (pc' := 16) dL_rows_13 (by decide) rfl (by omega) (by omega) (fun c13 => ?_) (fun c13 => ?_)
    · exact absurd c13 (by omega)
    · refine wa_aload_n (pc' := 17) dL_rows_16 rfl rfl rfl ?_
      refine wa_iload_n (pc' := 18) dL_rows_17 rfl rfl rfl ?_
      obtain ⟨y2, hq2, r2⟩ := e_pairs (okC_y h hq1) hw (l := l) hl
      refine wy_x (pc' := 21) (c0 := (t, nm, s, D, H, ol, ct, k, y1, si, fl, wi)) (c1 := (t, nm, s, D, H, ol, ct, k, y2, si, fl, wi)) (k_X9_pairs t nm s D H ol ct k y1 si fl wi (okC_y h hq1) l ⟨by omega, by omega⟩) (r2) rfl ok_X9_pairs lm_L_173 dL_rows_18 rfl rfl rfl rfl rfl (Nat.le_of_ble_eq_true rfl) (Nat.le_of_ble_eq_true rfl) rfl (by omega) (by omega) ?_
      refine wa_istore (pc' := 23) (ls' := [(4, _), (3, _), (2, _), (0, _), (1, _)]) dL_rows_21 rfl (by decide) rfl ?_
      refine wa_iconst (pc' := 24) dL_rows_23 rfl ?_
      refine wa_istore (pc' := 26) (ls' := [(5, _), (4, _), (3, _), (2, _), (0, _), (1, _)]) dL_rows_24 rfl (by decide) rfl ?_
      refine wa_iconst (pc' := 27) dL_rows_26 rfl ?_
      refine wa_istore (pc' := 29) (ls' := [(6, _), (5, _), (4, _), (3, _), (2, _), (0, _), (1, _)]) dL_rows_27 rfl (by decide) rfl ?_
      refine wa_sub [0, 1, 2, 3, 4, 5, 6] rfl ?_
      exact l_rows29 (B1 := nc + 1 + 1368 * (prF s l wi).toNat + 3 * (s.2.1 (l + 1) - s.2.1 l).toNat + 1) (B2 := ns + 6 + 8208 * (prF s l wi).toNat + 18 * (s.2.1 (l + 1) - s.2.1 l).toNat + 6) t nm s D H ol ct k y si fl wi h hw hh l w0 wi _ hl rfl (by omega) (by omega) (fun y9 nc1 ns1 g1 g2 g3 => ih (l + 1) y9 nc1 ns1 (by omega) (by omega) g1 (by omega) (by omega)) (prF s l wi).toNat 0 y2 _ _ (by decide) (by omega) hq2 (by omega) (by omega)
set_option maxRecDepth 10000 in
set_option maxHeartbeats 2000000 in
theorem k_L_rows (t nm : zRw) (s D : zSh) (H : Nat → zSh) (ol ct : Int) (k : zKd) (y : zLy) (si fl wi : Int) (h : okC (t, nm, s, D, H, ol, ct, k, y, si, fl, wi)) (hw : okW s) (hh : noH s) (w1 : Int) (hw1 : 10 ≤ w1 ∧ w1 ≤ 200) : zMet q_L_rows 11 549900 3299000 [zR 0, zI w1] (wCS (t, nm, s, D, H, ol, ct, k, y, si, fl, wi)) (zLP fun v c => v = zI 1 ∧ ∃ y1 : zLy, okQ y1 ∧ c = (t, nm, s, D, H, ol, ct, k, y1, si, fl, wi)) := by
  refine z_introF (ls := [(0, _), (1, _)]) (by decide +kernel) rfl (fun _ _ => rfl) (fun _ _ => Nat.le_of_ble_eq_true rfl) ?_
  obtain ⟨z1, z2, zT1, z4, zF1, zL1⟩ := id hw.1.1
  have hwi : 10 ≤ wi ∧ wi ≤ 200 := h.2.2.2.2.2.2.2.2.2.2.2
  have t0 := zT1 0 (by omega) (by omega)
  refine wa_aload_n (pc' := 1) dL_rows_0 rfl rfl rfl ?_
  refine wa_iload_n (pc' := 2) dL_rows_1 rfl rfl rfl ?_
  refine wy_x (pc' := 5) (c0 := (t, nm, s, D, H, ol, ct, k, y, si, fl, wi)) (c1 := (t, nm, s, D, H, ol, ct, k, y, si, fl, w1)) (k_X9_setWidth t nm s D H ol ct k y si fl wi h w1 ⟨by omega, by omega⟩) (e_setWidth hw1) rfl ok_X9_setWidth lm_L_170 dL_rows_2 rfl rfl rfl rfl rfl (Nat.le_of_ble_eq_true rfl) (Nat.le_of_ble_eq_true rfl) rfl (by omega) (by omega) ?_
  refine wa_istore_n (pc' := 6) (ls' := [(2, _), (0, _), (1, _)]) dL_rows_5 rfl rfl (by decide) rfl ?_
  refine wa_iconst (pc' := 7) dL_rows_6 rfl ?_
  refine wa_istore_n (pc' := 8) (ls' := [(3, _), (2, _), (0, _), (1, _)]) dL_rows_7 rfl rfl (by decide) rfl ?_
  refine wa_sub [0, 1, 2, 3] rfl ?_
  exact l_rows8 t nm s D H ol ct k y si fl w1 (okC_w h hw1) hw hh wi hwi (s.2.2.2.1).toNat 0 y _ _ (by decide) (by omega) h.2.2.2.2.2.2.2.2.1 (by omega) (by omega)

