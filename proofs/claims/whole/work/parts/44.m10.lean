/-! the reference: the fingerprint -/
theorem ltr9_b {L T : Int → Int} (hL : ∀ j : Int, 0 ≤ j → j < 200 → 0 ≤ L j ∧ L j < 65536) {l : Int} (h1 : 0 ≤ T l) (h2 : T (l + 1) ≤ 200) (k : Int) : -1 ≤ ltr L T l k ∧ ltr L T l k < 65536 := by
  unfold ltr
  split
  · have := hL (T l + k) (by omega) (by omega)
    omega
  · omega
set_option maxRecDepth 10000 in
set_option maxHeartbeats 1000000 in
theorem l_fp4 (s : zSh) (v pa : Int → Int) (sn : Int) (tx : Int → Int) (ty si fl wi th ap nt rr rq rb wh : Int) (md na : Int → Int) (nd : Int) (up lo : Int → Int) (us lw : Int) (hs : okW s) (hv : Vr s v) (R : Int) (i : Int) (hi : 0 ≤ i ∧ i < s.2.2.2.2.1) (X9 : Int) (kk : ∀ (y b4 : Int), y = fpA ((fun i f => s.2.2.1 (i * 5 + f)) i) 5 0 X9 → Wa q_X10_fingerprint 1 0 0 10 (zD (some (zJ R)) (wM v pa sn tx ty si fl wi 0 ap nt rr rq rb wh md na nd up lo us lw)) 129 [(4, zI b4), (1, zJ y), (3, zI i), (0, zR 0)] [] (wM v pa sn tx ty si fl wi 0 ap nt rr rq rb wh md na nd up lo us lw) 0 0) : ∀ (m : Nat) (f x : Int), 0 ≤ f → f + m = 5 → fpA ((fun i f => s.2.2.1 (i * 5 + f)) i) m f x = fpA ((fun i f => s.2.2.1 (i * 5 + f)) i) 5 0 X9 → Wa q_X10_fingerprint 1 0 0 10 (zD (some (zJ R)) (wM v pa sn tx ty si fl wi 0 ap nt rr rq rb wh md na nd up lo us lw)) 97 [(4, zI f), (1, zJ x), (3, zI i), (0, zR 0)] [] (wM v pa sn tx ty si fl wi 0 ap nt rr rq rb wh md na nd up lo us lw) 0 0 := by
  obtain ⟨v0, v1, v2, v3, vT, vF, vL⟩ := id hv
  have hz := hs.1
  obtain ⟨z1, z2, zT1, z4, zF1, zL1⟩ := id hz.1
  have zNm := hz.2.1
  have zg := hz.2.2.1
  have zm := hz.2.2.2.1
  have zln := hz.2.2.2.2
  have vS := Vr_sg hv zm
  have zQ1 := fun i h1 h2 => (zNm i h1 h2).2.1
  intro m
  induction m with
  | zero =>
    intro f x h0 hm hx
    refine wa_iload (pc' := 99) dX10_fingerprint_97 rfl rfl ?_
    refine wa_iconst (pc' := 100) dX10_fingerprint_99 rfl ?_
    refine wa_icmp_ge (tgt := 129) (pc' := 103) dX10_fingerprint_100 (by decide) rfl (by omega) (by omega) (fun c100 => ?_) (fun c100 => ?_)
    · exact kk x f hx
    · exact absurd c100 (by omega)
  | succ m ih =>
    intro f x h0 hm hx
    have f9 := Vr_F hv (i := i) (f := f) hi (by omega)
    have b9 := zF1 (i * 5 + f) (by omega) (by omega)
    refine wa_iload (pc' := 99) dX10_fingerprint_97 rfl rfl ?_
    refine wa_iconst (pc' := 100) dX10_fingerprint_99 rfl ?_
    refine wa_icmp_ge (tgt := 129) (pc' := 103) dX10_fingerprint_100 (by decide) rfl (by omega) (by omega) (fun c100 => ?_) (fun c100 => ?_)
    · exact absurd c100 (by omega)
    · refine wa_ldc2 (pc' := 106) (n := 31) dX10_fingerprint_103 rfl kl_X10_231 ?_
      refine wa_lload_n (pc' := 107) dX10_fingerprint_106 rfl rfl rfl ?_
      refine wa_lmul (pc' := 108) dX10_fingerprint_107 rfl ?_
      refine wa_aload_n (pc' := 109) dX10_fingerprint_108 rfl rfl rfl ?_
      refine wa_getfield (pc' := 112) (j := 0) zc_X10 lk_X10_7 dX10_fingerprint_109 rfl (by decide) rfl rfl ?_
      refine wa_iload_n (pc' := 113) dX10_fingerprint_112 rfl rfl rfl ?_
      refine wa_dS (pc' := 116) (w' := [_, _, _, _, _, _, _, _, _, _]) (k_X10_chord i (by omega)) ok_X10_chord lm_X10_94 dX10_fingerprint_113 rfl [] rfl (by decide) rfl rfl (by decide) (Nat.le_of_ble_eq_true rfl) rfl (by decide) (by decide) rfl rfl rfl ?_
      refine wa_iload (pc' := 118) dX10_fingerprint_116 rfl rfl ?_
      refine wa_iadd (pc' := 119) dX10_fingerprint_118 rfl ?_
      refine wa_iaload (pc' := 120) dX10_fingerprint_119 rfl rfl (by omega) (by omega) (by decide) ?_
      rw [f9]
      refine wa_i2l (pc' := 121) dX10_fingerprint_120 rfl (by omega) ?_
      refine wa_ladd (pc' := 122) dX10_fingerprint_121 rfl ?_
      refine wa_lstore_n (pc' := 123) (ls' := [(1, _), (4, _), (3, _), (0, _)]) dX10_fingerprint_122 rfl rfl (by decide) rfl ?_
      refine wa_iinc (pc' := 126) (ls' := [(4, _), (1, _), (3, _), (0, _)]) dX10_fingerprint_123 rfl rfl (by decide) rfl ?_
      refine wa_goto (pc' := 97) dX10_fingerprint_126 (by decide) ?_
      exact ih (f + 1) _ (by omega) (by omega) hx

set_option maxRecDepth 10000 in
set_option maxHeartbeats 1000000 in
theorem l_fp3 (s : zSh) (v pa : Int → Int) (sn : Int) (tx : Int → Int) (ty si fl wi th ap nt rr rq rb wh : Int) (md na : Int → Int) (nd : Int) (up lo : Int → Int) (us lw : Int) (hs : okW s) (hv : Vr s v) (R : Int) : ∀ (m : Nat) (i x : Int), 0 ≤ i → i + m = s.2.2.2.2.1 → 31 * (31 * fpC (fun i f => s.2.2.1 (i * 5 + f)) m i x + tonO s.2.2.2.2.2.1 s.2.2.2.2.2.2) + (if s.2.2.2.2.2.2 = 0 then 0 else 1) = R → Wa q_X10_fingerprint 1 0 0 10 (zD (some (zJ R)) (wM v pa sn tx ty si fl wi 0 ap nt rr rq rb wh md na nd up lo us lw)) 84 [(3, zI i), (1, zJ x), (0, zR 0)] [] (wM v pa sn tx ty si fl wi 0 ap nt rr rq rb wh md na nd up lo us lw) 0 0 := by
  obtain ⟨v0, v1, v2, v3, vT, vF, vL⟩ := id hv
  have hz := hs.1
  obtain ⟨z1, z2, zT1, z4, zF1, zL1⟩ := id hz.1
  have zNm := hz.2.1
  have zg := hz.2.2.1
  have zm := hz.2.2.2.1
  have zln := hz.2.2.2.2
  have vS := Vr_sg hv zm
  have zQ1 := fun i h1 h2 => (zNm i h1 h2).2.1
  have hT : -10 ≤ tonO s.2.2.2.2.2.1 s.2.2.2.2.2.2 ∧ tonO s.2.2.2.2.2.1 s.2.2.2.2.2.2 ≤ 10 := by unfold tonO; split <;> omega
  have hmn : (if s.2.2.2.2.2.2 = 0 then (0 : Int) else 1) = s.2.2.2.2.2.2 := by split <;> omega
  intro m
  induction m with
  | zero =>
    intro i x h0 hm hx
    refine wa_iload_n (pc' := 85) dX10_fingerprint_84 rfl rfl rfl ?_
    refine wa_aload_n (pc' := 86) dX10_fingerprint_85 rfl rfl rfl ?_
    refine wa_getfield (pc' := 89) (j := 0) zc_X10 lk_X10_7 dX10_fingerprint_86 rfl (by decide) rfl rfl ?_
    refine wa_iconst (pc' := 90) dX10_fingerprint_89 rfl ?_
    refine wa_iaload (pc' := 91) dX10_fingerprint_90 rfl rfl (by omega) (by omega) (by decide) ?_
    refine wa_icmp_ge (tgt := 135) (pc' := 94) dX10_fingerprint_91 (by decide) rfl (by omega) (by omega) (fun c91 => ?_) (fun c91 => ?_)
    · refine wa_ldc2 (pc' := 138) (n := 31) dX10_fingerprint_135 rfl kl_X10_231 ?_
      refine wa_ldc2 (pc' := 141) (n := 31) dX10_fingerprint_138 rfl kl_X10_231 ?_
      refine wa_lload_n (pc' := 142) dX10_fingerprint_141 rfl rfl rfl ?_
      refine wa_lmul (pc' := 143) dX10_fingerprint_142 rfl ?_
      refine wa_aload_n (pc' := 144) dX10_fingerprint_143 rfl rfl rfl ?_
      refine wa_getfield (pc' := 147) (j := 0) zc_X10 lk_X10_7 dX10_fingerprint_144 rfl (by decide) rfl rfl ?_
      refine wa_iconst (pc' := 148) dX10_fingerprint_147 rfl ?_
      refine wa_iaload (pc' := 149) dX10_fingerprint_148 rfl rfl (by omega) (by omega) (by decide) ?_
      refine wa_i2l (pc' := 150) dX10_fingerprint_149 rfl (by omega) ?_
      refine wa_ladd (pc' := 151) dX10_fingerprint_150 rfl ?_
      refine wa_lmul (pc' := 152) dX10_fingerprint_151 rfl ?_
      refine wa_aload_n (pc' := 153) dX10_fingerprint_152 rfl rfl rfl ?_
      refine wa_getfield (pc' := 156) (j := 0) zc_X10 lk_X10_7 dX10_fingerprint_153 rfl (by decide) rfl rfl ?_
      refine wa_iconst (pc' := 157) dX10_fingerprint_156 rfl ?_
      refine wa_iaload (pc' := 158) dX10_fingerprint_157 rfl rfl (by omega) (by omega) (by decide) ?_
      refine wa_i2l (pc' := 159) dX10_fingerprint_158 rfl (by omega) ?_
      refine wa_ladd (pc' := 160) dX10_fingerprint_159 rfl ?_
      refine wa_lret dX10_fingerprint_160 rfl (by decide) (by decide) ?_
      exact zD_i (by rw [← hx, hmn, v2, v3]; rfl) rfl
    · exact absurd c91 (by omega)
  | succ m ih =>
    intro i x h0 hm hx
    have hk : ∀ (y b4 : Int), y = fpA ((fun i f => s.2.2.1 (i * 5 + f)) i) 5 0 x → Wa q_X10_fingerprint 1 0 0 10 (zD (some (zJ R)) (wM v pa sn tx ty si fl wi 0 ap nt rr rq rb wh md na nd up lo us lw)) 129 [(4, zI b4), (1, zJ y), (3, zI i), (0, zR 0)] [] (wM v pa sn tx ty si fl wi 0 ap nt rr rq rb wh md na nd up lo us lw) 0 0 := by
      intro y b4 hy
      refine wa_iinc (pc' := 132) (ls' := [(3, _), (4, _), (1, _), (0, _)]) dX10_fingerprint_129 rfl rfl (by decide) rfl ?_
      refine wa_goto (pc' := 84) dX10_fingerprint_132 (by decide) ?_
      refine wa_sub [0, 2, 3] rfl ?_
      exact ih (i + 1) y (by omega) (by omega) (by rw [hy]; exact hx)
    refine wa_iload_n (pc' := 85) dX10_fingerprint_84 rfl rfl rfl ?_
    refine wa_aload_n (pc' := 86) dX10_fingerprint_85 rfl rfl rfl ?_
    refine wa_getfield (pc' := 89) (j := 0) zc_X10 lk_X10_7 dX10_fingerprint_86 rfl (by decide) rfl rfl ?_
    refine wa_iconst (pc' := 90) dX10_fingerprint_89 rfl ?_
    refine wa_iaload (pc' := 91) dX10_fingerprint_90 rfl rfl (by omega) (by omega) (by decide) ?_
    refine wa_icmp_ge (tgt := 135) (pc' := 94) dX10_fingerprint_91 (by decide) rfl (by omega) (by omega) (fun c91 => ?_) (fun c91 => ?_)
    · exact absurd c91 (by omega)
    · refine wa_iconst (pc' := 95) dX10_fingerprint_94 rfl ?_
      refine wa_istore (pc' := 97) (ls' := [(4, _), (3, _), (1, _), (0, _)]) dX10_fingerprint_95 rfl (by decide) rfl ?_
      refine wa_sub [0, 2, 1, 3] rfl ?_
      exact l_fp4 s _ _ _ _ _ _ _ _ 0 _ _ _ _ _ _ _ _ _ _ _ _ _ hs hv _ i (by omega) x hk 5 0 x (by omega) (by omega) rfl

set_option maxRecDepth 10000 in
set_option maxHeartbeats 1000000 in
theorem l_fp2 (s : zSh) (v pa : Int → Int) (sn : Int) (tx : Int → Int) (ty si fl wi th ap nt rr rq rb wh : Int) (md na : Int → Int) (nd : Int) (up lo : Int → Int) (us lw : Int) (hs : okW s) (hv : Vr s v) (R : Int) (l : Int) (hl : 0 ≤ l ∧ l < s.2.2.2.1) (X9 : Int) (kk : ∀ (y b4 : Int), y = fpA (ltr s.1 s.2.1 l) (s.2.1 (l + 1) - s.2.1 l).toNat 0 X9 → Wa q_X10_fingerprint 1 0 0 10 (zD (some (zJ R)) (wM v pa sn tx ty si fl wi 0 ap nt rr rq rb wh md na nd up lo us lw)) 76 [(4, zI b4), (1, zJ y), (3, zI l), (0, zR 0)] [] (wM v pa sn tx ty si fl wi 0 ap nt rr rq rb wh md na nd up lo us lw) 0 0) : ∀ (m : Nat) (k x : Int), 0 ≤ k ∧ k ≤ 1000 → (s.2.1 (l + 1) - s.2.1 l - k).toNat = m → fpA (ltr s.1 s.2.1 l) m k x = fpA (ltr s.1 s.2.1 l) (s.2.1 (l + 1) - s.2.1 l).toNat 0 X9 → Wa q_X10_fingerprint 1 0 0 10 (zD (some (zJ R)) (wM v pa sn tx ty si fl wi 0 ap nt rr rq rb wh md na nd up lo us lw)) 45 [(4, zI k), (1, zJ x), (3, zI l), (0, zR 0)] [] (wM v pa sn tx ty si fl wi 0 ap nt rr rq rb wh md na nd up lo us lw) 0 0 := by
  obtain ⟨v0, v1, v2, v3, vT, vF, vL⟩ := id hv
  have hz := hs.1
  obtain ⟨z1, z2, zT1, z4, zF1, zL1⟩ := id hz.1
  have zNm := hz.2.1
  have zg := hz.2.2.1
  have zm := hz.2.2.2.1
  have zln := hz.2.2.2.2
  have vS := Vr_sg hv zm
  have zQ1 := fun i h1 h2 => (zNm i h1 h2).2.1
  have t1 := zT1 l (by omega) (by omega)
  have t2 := zT1 (l + 1) (by omega) (by omega)
  intro m
  induction m with
  | zero =>
    intro k x h0 hm hx
    refine wa_iload (pc' := 47) dX10_fingerprint_45 rfl rfl ?_
    refine wa_aload_n (pc' := 48) dX10_fingerprint_47 rfl rfl rfl ?_
    refine wa_iload_n (pc' := 49) dX10_fingerprint_48 rfl rfl rfl ?_
    refine wa_rI2 (pc' := 52) (st := [_]) (k_X10_lengthOf s _ _ _ _ _ _ _ _ _ _ _ _ _ _ _ _ _ _ _ _ _ _ _ hs hv (by omega) ) ok_X10_lengthOf lm_X10_120 dX10_fingerprint_49 rfl (wM_ok _ _ _ _ _ _ _ _ _ _ _ _ _ _ _ _ _ _ _ _ _ _) rfl rfl (Nat.le_of_ble_eq_true rfl) rfl rfl rfl rfl (by decide) (Nat.le_of_ble_eq_true rfl) rfl (by decide) (by decide) rfl rfl ?_
    refine wa_icmp_ge (tgt := 76) (pc' := 55) dX10_fingerprint_52 (by decide) rfl (by omega) (by omega) (fun c52 => ?_) (fun c52 => ?_)
    · exact kk x k hx
    · exact absurd c52 (by omega)
  | succ m ih =>
    intro k x h0 hm hx
    have hb := ltr9_b zL1 t1.1 t2.2 k
    refine wa_iload (pc' := 47) dX10_fingerprint_45 rfl rfl ?_
    refine wa_aload_n (pc' := 48) dX10_fingerprint_47 rfl rfl rfl ?_
    refine wa_iload_n (pc' := 49) dX10_fingerprint_48 rfl rfl rfl ?_
    refine wa_rI2 (pc' := 52) (st := [_]) (k_X10_lengthOf s _ _ _ _ _ _ _ _ _ _ _ _ _ _ _ _ _ _ _ _ _ _ _ hs hv (by omega) ) ok_X10_lengthOf lm_X10_120 dX10_fingerprint_49 rfl (wM_ok _ _ _ _ _ _ _ _ _ _ _ _ _ _ _ _ _ _ _ _ _ _) rfl rfl (Nat.le_of_ble_eq_true rfl) rfl rfl rfl rfl (by decide) (Nat.le_of_ble_eq_true rfl) rfl (by decide) (by decide) rfl rfl ?_
    refine wa_icmp_ge (tgt := 76) (pc' := 55) dX10_fingerprint_52 (by decide) rfl (by omega) (by omega) (fun c52 => ?_) (fun c52 => ?_)
    · exact absurd c52 (by omega)
    · refine wa_ldc2 (pc' := 58) (n := 31) dX10_fingerprint_55 rfl kl_X10_231 ?_
      refine wa_lload_n (pc' := 59) dX10_fingerprint_58 rfl rfl rfl ?_
      refine wa_lmul (pc' := 60) dX10_fingerprint_59 rfl ?_
      refine wa_aload_n (pc' := 61) dX10_fingerprint_60 rfl rfl rfl ?_
      refine wa_iload_n (pc' := 62) dX10_fingerprint_61 rfl rfl rfl ?_
      refine wa_iload (pc' := 64) dX10_fingerprint_62 rfl rfl ?_
      refine wa_rI2 (pc' := 67) (st := [_]) (k_X10_lyricAt s _ _ _ _ _ _ _ _ _ _ _ _ _ _ _ _ _ _ _ _ _ _ l k hs hv hl (by omega)) ok_X10_lyricAt lm_X10_123 dX10_fingerprint_64 rfl (wM_ok _ _ _ _ _ _ _ _ _ _ _ _ _ _ _ _ _ _ _ _ _ _) rfl rfl (Nat.le_of_ble_eq_true rfl) rfl rfl rfl rfl (by decide) (Nat.le_of_ble_eq_true rfl) rfl (by decide) (by decide) rfl rfl ?_
      refine wa_i2l (pc' := 68) dX10_fingerprint_67 rfl (by omega) ?_
      refine wa_ladd (pc' := 69) dX10_fingerprint_68 rfl ?_
      refine wa_lstore_n (pc' := 70) (ls' := [(1, _), (4, _), (3, _), (0, _)]) dX10_fingerprint_69 rfl rfl (by decide) rfl ?_
      refine wa_iinc (pc' := 73) (ls' := [(4, _), (1, _), (3, _), (0, _)]) dX10_fingerprint_70 rfl rfl (by decide) rfl ?_
      refine wa_goto (pc' := 45) dX10_fingerprint_73 (by decide) ?_
      exact ih (k + 1) _ ⟨by omega, by omega⟩ (by omega) hx

set_option maxRecDepth 10000 in
set_option maxHeartbeats 1000000 in
theorem l_fp1 (s : zSh) (v pa : Int → Int) (sn : Int) (tx : Int → Int) (ty si fl wi th ap nt rr rq rb wh : Int) (md na : Int → Int) (nd : Int) (up lo : Int → Int) (us lw : Int) (hs : okW s) (hv : Vr s v) (R : Int) (hR : 31 * (31 * (fpC (fun i f => s.2.2.1 (i * 5 + f)) s.2.2.2.2.1.toNat 0 (fpB (fun l => s.2.1 (l + 1) - s.2.1 l) (ltr s.1 s.2.1) s.2.2.2.1.toNat 0 (31 * 47 + s.2.2.2.1))) + tonO s.2.2.2.2.2.1 s.2.2.2.2.2.2) + (if s.2.2.2.2.2.2 = 0 then 0 else 1) = R) : ∀ (m : Nat) (l x : Int), 0 ≤ l → l + m = s.2.2.2.1 → fpB (fun l => s.2.1 (l + 1) - s.2.1 l) (ltr s.1 s.2.1) m l x = fpB (fun l => s.2.1 (l + 1) - s.2.1 l) (ltr s.1 s.2.1) s.2.2.2.1.toNat 0 (31 * 47 + s.2.2.2.1) → Wa q_X10_fingerprint 1 0 0 10 (zD (some (zJ R)) (wM v pa sn tx ty si fl wi 0 ap nt rr rq rb wh md na nd up lo us lw)) 19 [(3, zI l), (1, zJ x), (0, zR 0)] [] (wM v pa sn tx ty si fl wi 0 ap nt rr rq rb wh md na nd up lo us lw) 0 0 := by
  obtain ⟨v0, v1, v2, v3, vT, vF, vL⟩ := id hv
  have hz := hs.1
  obtain ⟨z1, z2, zT1, z4, zF1, zL1⟩ := id hz.1
  have zNm := hz.2.1
  have zg := hz.2.2.1
  have zm := hz.2.2.2.1
  have zln := hz.2.2.2.2
  have vS := Vr_sg hv zm
  have zQ1 := fun i h1 h2 => (zNm i h1 h2).2.1
  intro m
  induction m with
  | zero =>
    intro l x h0 hm hx
    refine wa_iload_n (pc' := 20) dX10_fingerprint_19 rfl rfl rfl ?_
    refine wa_aload_n (pc' := 21) dX10_fingerprint_20 rfl rfl rfl ?_
    refine wa_getfield (pc' := 24) (j := 0) zc_X10 lk_X10_7 dX10_fingerprint_21 rfl (by decide) rfl rfl ?_
    refine wa_iconst (pc' := 25) dX10_fingerprint_24 rfl ?_
    refine wa_iaload (pc' := 26) dX10_fingerprint_25 rfl rfl (by omega) (by omega) (by decide) ?_
    refine wa_icmp_ge (tgt := 82) (pc' := 29) dX10_fingerprint_26 (by decide) rfl (by omega) (by omega) (fun c26 => ?_) (fun c26 => ?_)
    · refine wa_iconst (pc' := 83) dX10_fingerprint_82 rfl ?_
      refine wa_istore_n (pc' := 84) (ls' := [(3, _), (1, _), (0, _)]) dX10_fingerprint_83 rfl rfl (by decide) rfl ?_
      exact l_fp3 s _ _ _ _ _ _ _ _ 0 _ _ _ _ _ _ _ _ _ _ _ _ _ hs hv R s.2.2.2.2.1.toNat 0 x (by omega) (by omega) (by rw [show x = fpB (fun l => s.2.1 (l + 1) - s.2.1 l) (ltr s.1 s.2.1) s.2.2.2.1.toNat 0 (31 * 47 + s.2.2.2.1) from hx]; exact hR)
    · exact absurd c26 (by omega)
  | succ m ih =>
    intro l x h0 hm hx
    have t1 := zT1 l (by omega) (by omega)
    have t2 := zT1 (l + 1) (by omega) (by omega)
    have hk : ∀ (y b4 : Int), y = fpA (ltr s.1 s.2.1 l) (s.2.1 (l + 1) - s.2.1 l).toNat 0 (31 * x + (s.2.1 (l + 1) - s.2.1 l)) → Wa q_X10_fingerprint 1 0 0 10 (zD (some (zJ R)) (wM v pa sn tx ty si fl wi 0 ap nt rr rq rb wh md na nd up lo us lw)) 76 [(4, zI b4), (1, zJ y), (3, zI l), (0, zR 0)] [] (wM v pa sn tx ty si fl wi 0 ap nt rr rq rb wh md na nd up lo us lw) 0 0 := by
      intro y b4 hy
      refine wa_iinc (pc' := 79) (ls' := [(3, _), (4, _), (1, _), (0, _)]) dX10_fingerprint_76 rfl rfl (by decide) rfl ?_
      refine wa_goto (pc' := 19) dX10_fingerprint_79 (by decide) ?_
      refine wa_sub [0, 2, 3] rfl ?_
      exact ih (l + 1) y (by omega) (by omega) (by rw [hy]; exact hx)
    refine wa_iload_n (pc' := 20) dX10_fingerprint_19 rfl rfl rfl ?_
    refine wa_aload_n (pc' := 21) dX10_fingerprint_20 rfl rfl rfl ?_
    refine wa_getfield (pc' := 24) (j := 0) zc_X10 lk_X10_7 dX10_fingerprint_21 rfl (by decide) rfl rfl ?_
    refine wa_iconst (pc' := 25) dX10_fingerprint_24 rfl ?_
    refine wa_iaload (pc' := 26) dX10_fingerprint_25 rfl rfl (by omega) (by omega) (by decide) ?_
    refine wa_icmp_ge (tgt := 82) (pc' := 29) dX10_fingerprint_26 (by decide) rfl (by omega) (by omega) (fun c26 => ?_) (fun c26 => ?_)
    · exact absurd c26 (by omega)
    · refine wa_ldc2 (pc' := 32) (n := 31) dX10_fingerprint_29 rfl kl_X10_231 ?_
      refine wa_lload_n (pc' := 33) dX10_fingerprint_32 rfl rfl rfl ?_
      refine wa_lmul (pc' := 34) dX10_fingerprint_33 rfl ?_
      refine wa_aload_n (pc' := 35) dX10_fingerprint_34 rfl rfl rfl ?_
      refine wa_iload_n (pc' := 36) dX10_fingerprint_35 rfl rfl rfl ?_
      refine wa_rI2 (pc' := 39) (st := [_]) (k_X10_lengthOf s _ _ _ _ _ _ _ _ _ _ _ _ _ _ _ _ _ _ _ _ _ _ l hs hv (by omega)) ok_X10_lengthOf lm_X10_120 dX10_fingerprint_36 rfl (wM_ok _ _ _ _ _ _ _ _ _ _ _ _ _ _ _ _ _ _ _ _ _ _) rfl rfl (Nat.le_of_ble_eq_true rfl) rfl rfl rfl rfl (by decide) (Nat.le_of_ble_eq_true rfl) rfl (by decide) (by decide) rfl rfl ?_
      refine wa_i2l (pc' := 40) dX10_fingerprint_39 rfl (by omega) ?_
      refine wa_ladd (pc' := 41) dX10_fingerprint_40 rfl ?_
      refine wa_lstore_n (pc' := 42) (ls' := [(1, _), (3, _), (0, _)]) dX10_fingerprint_41 rfl rfl (by decide) rfl ?_
      refine wa_iconst (pc' := 43) dX10_fingerprint_42 rfl ?_
      refine wa_istore (pc' := 45) (ls' := [(4, _), (1, _), (3, _), (0, _)]) dX10_fingerprint_43 rfl (by decide) rfl ?_
      exact l_fp2 s _ _ _ _ _ _ _ _ 0 _ _ _ _ _ _ _ _ _ _ _ _ _ hs hv R l (by omega) _ hk _ 0 _ ⟨by omega, by omega⟩ (by omega) rfl

set_option maxRecDepth 10000 in
set_option maxHeartbeats 1000000 in
theorem k_X10_fingerprint (s : zSh) (v pa : Int → Int) (sn : Int) (tx : Int → Int) (ty si fl wi th ap nt rr rq rb wh : Int) (md na : Int → Int) (nd : Int) (up lo : Int → Int) (us lw : Int)  (hs : okW s) (hv : Vr s v)  : zMet q_X10_fingerprint 1 0 0 [zR 0] (wM v pa sn tx ty si fl wi th ap nt rr rq rb wh md na nd up lo us lw) (zD (some (zJ (31 * (31 * (fpC (fun i f => s.2.2.1 (i * 5 + f)) s.2.2.2.2.1.toNat 0 (fpB (fun l => s.2.1 (l + 1) - s.2.1 l) (ltr s.1 s.2.1) s.2.2.2.1.toNat 0 (31 * 47 + s.2.2.2.1))) + tonO s.2.2.2.2.2.1 s.2.2.2.2.2.2) + (if s.2.2.2.2.2.2 = 0 then 0 else 1)))) (wM v pa sn tx ty si fl wi 0 ap nt rr rq rb wh md na nd up lo us lw)) := by
  refine z_introF (ls := [(0, _)]) (by decide +kernel) rfl (fun _ _ => rfl) (fun _ _ => Nat.le_of_ble_eq_true rfl) ?_
  obtain ⟨v0, v1, v2, v3, vT, vF, vL⟩ := id hv
  have hz := hs.1
  obtain ⟨z1, z2, zT1, z4, zF1, zL1⟩ := id hz.1
  have zNm := hz.2.1
  have zg := hz.2.2.1
  have zm := hz.2.2.2.1
  have zln := hz.2.2.2.2
  have vS := Vr_sg hv zm
  have zQ1 := fun i h1 h2 => (zNm i h1 h2).2.1
  refine wa_aload_n (pc' := 1) dX10_fingerprint_0 rfl rfl rfl ?_
  refine wa_iconst (pc' := 2) dX10_fingerprint_1 rfl ?_
  refine wa_putfield (pc' := 5) (j := 8) (w' := [zO _ [_, _, _, _, _, _, _, _, _, _, _, _, _, _, _, _, _, _, _, _, _, _, _, _], _, _, _, _, _, _, _, _, _]) zc_X10 lk_X10_46 dX10_fingerprint_2 rfl (by decide) rfl rfl (Nat.le_of_ble_eq_true rfl) True.intro rfl ?_
  refine wa_ldc2 (pc' := 8) (n := 1457) dX10_fingerprint_5 rfl kl_X10_229 ?_
  refine wa_aload_n (pc' := 9) dX10_fingerprint_8 rfl rfl rfl ?_
  refine wa_getfield (pc' := 12) (j := 0) zc_X10 lk_X10_7 dX10_fingerprint_9 rfl (by decide) rfl rfl ?_
  refine wa_iconst (pc' := 13) dX10_fingerprint_12 rfl ?_
  refine wa_iaload (pc' := 14) dX10_fingerprint_13 rfl rfl (by omega) (by omega) (by decide) ?_
  rw [v0]
  refine wa_i2l (pc' := 15) dX10_fingerprint_14 rfl (by omega) ?_
  refine wa_ladd (pc' := 16) dX10_fingerprint_15 rfl ?_
  refine wa_lstore_n (pc' := 17) (ls' := [(1, _), (0, _)]) dX10_fingerprint_16 rfl rfl (by decide) rfl ?_
  refine wa_iconst (pc' := 18) dX10_fingerprint_17 rfl ?_
  refine wa_istore_n (pc' := 19) (ls' := [(3, _), (1, _), (0, _)]) dX10_fingerprint_18 rfl rfl (by decide) rfl ?_
  exact l_fp1 s _ _ _ _ _ _ _ _ 0 _ _ _ _ _ _ _ _ _ _ _ _ _ hs hv _ rfl s.2.2.2.1.toNat 0 _ (by omega) (by omega) rfl

