/-! answers, as told -/
def ctF (s : zSh) (i : Int) : Int := ((zpop (zand (toneF (s.2.2.1 (i * 5 + 2)) (s.2.2.1 (i * 5 + 3)) (s.2.2.1 (i * 5 + 4))) (toneF (s.2.2.1 ((i + 1) * 5 + 2)) (s.2.2.1 ((i + 1) * 5 + 3)) (s.2.2.1 ((i + 1) * 5 + 4)))).toNat : Nat) : Int)
theorem e_lineOf {t nm : zRw} {s D : zSh} {H : Nat → zSh} {ol ct : Int} {k : zKd} {y : zLy} {si fl wi : Int} {i v : Int} (hi : 0 ≤ i ∧ i < s.2.2.2.2.1) (hv : s.2.2.1 (i * 5 + 0) = v) : cs_lineOf i (t, nm, s, D, H, ol, ct, k, y, si, fl, wi) = (.inl (some (zI v)), (t, nm, s, D, H, ol, ct, k, y, si, fl, wi)) := by
  subst hv
  exact if_neg (not_not_intro hi)
theorem e_columnOf {t nm : zRw} {s D : zSh} {H : Nat → zSh} {ol ct : Int} {k : zKd} {y : zLy} {si fl wi : Int} {i v : Int} (hi : 0 ≤ i ∧ i < s.2.2.2.2.1) (hv : s.2.2.1 (i * 5 + 1) = v) : cs_columnOf i (t, nm, s, D, H, ol, ct, k, y, si, fl, wi) = (.inl (some (zI v)), (t, nm, s, D, H, ol, ct, k, y, si, fl, wi)) := by
  subst hv
  exact if_neg (not_not_intro hi)
theorem e_rootOf {t nm : zRw} {s D : zSh} {H : Nat → zSh} {ol ct : Int} {k : zKd} {y : zLy} {si fl wi : Int} {i v : Int} (hi : 0 ≤ i ∧ i < s.2.2.2.2.1) (hv : s.2.2.1 (i * 5 + 2) = v) : cs_rootOf i (t, nm, s, D, H, ol, ct, k, y, si, fl, wi) = (.inl (some (zI v)), (t, nm, s, D, H, ol, ct, k, y, si, fl, wi)) := by
  subst hv
  exact if_neg (not_not_intro hi)
theorem e_qualityOf {t nm : zRw} {s D : zSh} {H : Nat → zSh} {ol ct : Int} {k : zKd} {y : zLy} {si fl wi : Int} {i v : Int} (hi : 0 ≤ i ∧ i < s.2.2.2.2.1) (hv : s.2.2.1 (i * 5 + 3) = v) : cs_qualityOf i (t, nm, s, D, H, ol, ct, k, y, si, fl, wi) = (.inl (some (zI v)), (t, nm, s, D, H, ol, ct, k, y, si, fl, wi)) := by
  subst hv
  exact if_neg (not_not_intro hi)
theorem e_bassOf {t nm : zRw} {s D : zSh} {H : Nat → zSh} {ol ct : Int} {k : zKd} {y : zLy} {si fl wi : Int} {i v : Int} (hi : 0 ≤ i ∧ i < s.2.2.2.2.1) (hv : s.2.2.1 (i * 5 + 4) = v) : cs_bassOf i (t, nm, s, D, H, ol, ct, k, y, si, fl, wi) = (.inl (some (zI v)), (t, nm, s, D, H, ol, ct, k, y, si, fl, wi)) := by
  subst hv
  exact if_neg (not_not_intro hi)
theorem e_degree {t nm : zRw} {s D : zSh} {H : Nat → zSh} {ol ct : Int} {k : zKd} {y : zLy} {si fl wi : Int} {i : Int} (hi : 0 ≤ i ∧ i < s.2.2.2.2.1) : cs_degree i (t, nm, s, D, H, ol, ct, k, y, si, fl, wi) = (.inl (some (zI (dgF (pcl (s.2.2.1 (i * 5 + 2))) s.2.2.2.2.2.1 s.2.2.2.2.2.2))), (t, nm, s, D, H, ol, ct, k, y, si, fl, wi)) := if_neg (not_not_intro hi)
theorem e_common {t nm : zRw} {s D : zSh} {H : Nat → zSh} {ol ct : Int} {k : zKd} {y : zLy} {si fl wi : Int} {i : Int} (hi : 0 ≤ i ∧ i < s.2.2.2.2.1 - 1) : cs_commonTones i (t, nm, s, D, H, ol, ct, k, y, si, fl, wi) = (.inl (some (zI (ctF s i))), (t, nm, s, D, H, ol, ct, k, y, si, fl, wi)) := if_neg (by omega)
theorem e_difficulty {t nm : zRw} {s D : zSh} {H : Nat → zSh} {ol ct : Int} {k : zKd} {y : zLy} {si fl wi : Int} {f : Int} (hf : 0 ≤ f ∧ f ≤ 7) : cs_difficulty f (t, nm, s, D, H, ol, ct, k, y, si, fl, wi) = (.inl (some (zI (dfF s.2.2.1 s.2.2.2.2.1 f))), (t, nm, s, D, H, ol, ct, k, y, si, fl, wi)) := if_neg (by omega)
theorem e_score {t nm : zRw} {s D : zSh} {H : Nat → zSh} {ol ct : Int} {k : zKd} {y : zLy} {si fl wi : Int} {p b v : Int} (hp : -6 ≤ p - 3 * b ∧ p - 3 * b ≤ 6) (hv : scF s.2.2.1 s.2.2.2.2.1 (sigO p b) b = v) : cs_score p b (t, nm, s, D, H, ol, ct, k, y, si, fl, wi) = (.inl (some (zI v)), (t, nm, s, D, H, ol, ct, k, y, si, fl, wi)) := by
  subst hv
  exact if_neg (not_not_intro hp)
theorem e_fp {t nm : zRw} {s D : zSh} {H : Nat → zSh} {ol ct : Int} {k : zKd} {y : zLy} {si fl wi : Int} : cs_fingerprint (t, nm, s, D, H, ol, ct, k, y, si, fl, wi) = (.inl (some (zJ (fpS s))), (t, nm, s, D, H, ol, ct, k, y, si, fl, wi)) := rfl
theorem name_h (r q b : Int) : 65 ≤ (nameL r q b).getD 0 0 ∧ (nameL r q b).getD 0 0 ≤ 71 := by
  have h9 : ∀ k : Nat, k < 7 → 65 ≤ (zBytes.getD 10 []).getD k 0 ∧ (zBytes.getD 10 []).getD k 0 ≤ 71 := by decide
  exact h9 ((r - -1) % 7).toNat (by omega)
theorem e_name {t nm : zRw} {s D : zSh} {H : Nat → zSh} {ol ct : Int} {k : zKd} {y : zLy} {si fl wi : Int} {i : Int} (hi : 0 ≤ i ∧ i < s.2.2.2.2.1) (hn : 0 ≤ nm.1) : cs_nameChar i 0 (t, nm, s, D, H, ol, ct, k, y, si, fl, wi) = (.inl (some (zI ((nameL (s.2.2.1 (i * 5 + 2)) (s.2.2.1 (i * 5 + 3)) (s.2.2.1 (i * 5 + 4))).getD 0 0))), (t, rL (rC nm 0) (nameL (s.2.2.1 (i * 5 + 2)) (s.2.2.1 (i * 5 + 3)) (s.2.2.1 (i * 5 + 4))), s, D, H, ol, ct, k, y, si, fl, wi)) := by
  have h0 := rC_0 (r := nm) hn
  have h1 := rL_hi (rC nm 0) (nameL (s.2.2.1 (i * 5 + 2)) (s.2.2.1 (i * 5 + 3)) (s.2.2.1 (i * 5 + 4))) 0 (by unfold nameL noteL; simp)
  have h2 : (rL (rC nm 0) (nameL (s.2.2.1 (i * 5 + 2)) (s.2.2.1 (i * 5 + 3)) (s.2.2.1 (i * 5 + 4)))).2 0 = (nameL (s.2.2.1 (i * 5 + 2)) (s.2.2.1 (i * 5 + 3)) (s.2.2.1 (i * 5 + 4))).getD 0 0 := by
    rw [← h1, h0]
    rfl
  have h3 := rL_len (rC nm 0) (nameL (s.2.2.1 (i * 5 + 2)) (s.2.2.1 (i * 5 + 3)) (s.2.2.1 (i * 5 + 4)))
  have h4 : 0 < (nameL (s.2.2.1 (i * 5 + 2)) (s.2.2.1 (i * 5 + 3)) (s.2.2.1 (i * 5 + 4))).length := by unfold nameL noteL; simp
  show (if ¬ (0 ≤ i ∧ i < s.2.2.2.2.1) then _ else if (0 : Int) < 0 then _ else _) = _
  rw [if_neg (not_not_intro hi), if_neg (show ¬ (0 : Int) < 0 by decide), if_pos (show (0 : Int) ≤ 0 ∧ 0 < (rL (rC nm 0) (nameL (s.2.2.1 (i * 5 + 2)) (s.2.2.1 (i * 5 + 3)) (s.2.2.1 (i * 5 + 4)))).1 by omega), h2]
theorem nm_b {s : zSh} (hs : okN s) {i : Int} (hi : 0 ≤ i ∧ i < s.2.2.2.2.1) {nm : zRw} (hn : 0 ≤ nm.1) : 0 ≤ (rL (rC nm 0) (nameL (s.2.2.1 (i * 5 + 2)) (s.2.2.1 (i * 5 + 3)) (s.2.2.1 (i * 5 + 4)))).1 ∧ (rL (rC nm 0) (nameL (s.2.2.1 (i * 5 + 2)) (s.2.2.1 (i * 5 + 3)) (s.2.2.1 (i * 5 + 4)))).1 ≤ 680 := by
  obtain ⟨n1, n2, n3⟩ := hs i hi.1 hi.2
  have h0 := rC_0 (r := nm) hn
  have h3 := rL_len (rC nm 0) (nameL (s.2.2.1 (i * 5 + 2)) (s.2.2.1 (i * 5 + 3)) (s.2.2.1 (i * 5 + 4)))
  have h4 := nameL_n n1 n2 n3
  omega
theorem okC_n {t nm : zRw} {s D : zSh} {H : Nat → zSh} {ol ct : Int} {k : zKd} {y : zLy} {si fl wi : Int} (h : okC (t, nm, s, D, H, ol, ct, k, y, si, fl, wi)) {nm1 : zRw} (hn : 0 ≤ nm1.1 ∧ nm1.1 ≤ 680) : okC (t, nm1, s, D, H, ol, ct, k, y, si, fl, wi) := ⟨h.1, hn, h.2.2⟩
theorem ton_c (sg mn : Int) (hm : mn = 0 ∨ mn = 1) : (mn = 0 ∧ tonO sg mn = sg) ∨ (mn = 1 ∧ tonO sg mn = sg + 3) := by
  unfold tonO
  rcases hm with rfl | rfl
  · exact Or.inl ⟨rfl, if_pos rfl⟩
  · exact Or.inr ⟨rfl, if_neg (by decide)⟩
/-! chords in order, keys, frets -/
set_option maxRecDepth 10000 in
set_option maxHeartbeats 2000000 in
theorem l_chords255 (t nm : zRw) (s D : zSh) (H : Nat → zSh) (ol ct : Int) (k : zKd) (y : zLy) (si fl wi : Int) (h : okC (t, nm, s, D, H, ol, ct, k, y, si, fl, wi)) (fr be cc : Int) (nc ns : Nat) (hnc : nc + 4 ≤ 1000) (hns : ns + 24 ≤ 6000) : Wa q_L_chords 10 1000 6000 53 (zLP fun v c => v = zI 1 ∧ ∃ nm1 : zRw, (0 ≤ nm1.1 ∧ nm1.1 ≤ 680) ∧ c = (t, nm1, s, D, H, ol, ct, k, y, si, fl, wi)) 255 [(3, zI fr), (2, zI be), (1, zI cc), (0, zR 0)] [] (wCS (t, nm, s, D, H, ol, ct, k, y, si, fl, wi)) nc ns := by
  obtain ⟨hT9, hnm, hs9, hD9, hH9, hol, hct, hk9, hq9, hsi, hfl, hwi⟩ := id h
  obtain ⟨z1, z2, zT1, z4, zF1, zL1⟩ := id hs9.1
  have zNm := hs9.2.1
  have zg := hs9.2.2.1
  have zm := hs9.2.2.2.1
  have b0 := scF_b s.2.2.1 0 0 z4
  have ht := ton_c s.2.2.2.2.2.1 s.2.2.2.2.2.2 zm
  rcases be_cases s.2.2.1 s.2.2.2.2.1 with ⟨k1, k2, k3, k4⟩ | ⟨k1, k2, k3, k4⟩
  · have b1 := scF_b s.2.2.1 (sigO (beF s.2.2.1 s.2.2.2.2.1 - 100) 1) 1 z4
    have b2 := beF_c s.2.2.1 s.2.2.2.2.1
    refine wa_aload_n (pc' := 256) dL_chords_255 rfl rfl rfl ?_
    refine wy_x (pc' := 259) (c0 := (t, nm, s, D, H, ol, ct, k, y, si, fl, wi)) (c1 := (t, nm, s, D, H, ol, ct, k, y, si, fl, wi)) (k_X9_findKey t nm s D H ol ct k y si fl wi h) (rfl) rfl ok_X9_findKey lm_L_147 dL_chords_256 rfl rfl rfl rfl rfl (Nat.le_of_ble_eq_true rfl) (Nat.le_of_ble_eq_true rfl) rfl (by omega) (by omega) ?_
    refine wa_istore_n (pc' := 260) (ls' := [(3, _), (2, _), (1, _), (0, _)]) dL_chords_259 rfl rfl (by decide) rfl ?_
    refine wa_iload_n (pc' := 261) dL_chords_260 rfl rfl rfl ?_
    refine wa_bipush (pc' := 263) dL_chords_261 rfl rfl ?_
    refine wa_icmp_lt (tgt := 270) (pc' := 266) dL_chords_263 (by decide) rfl (by omega) (by omega) (fun c263 => ?_) (fun c263 => ?_)
    · exact absurd c263 (by omega)
    · refine wa_iconst (pc' := 267) dL_chords_266 rfl ?_
      refine wa_goto (pc' := 271) dL_chords_267 (by decide) ?_
      refine wa_istore (pc' := 273) (ls' := [(4, _), (3, _), (2, _), (1, _), (0, _)]) dL_chords_271 rfl (by decide) rfl ?_
      refine wa_iload (pc' := 275) dL_chords_273 rfl rfl ?_
      refine wa_if_eq (tgt := 285) (pc' := 278) dL_chords_275 (by decide) rfl (by omega) (fun c275 => ?_) (fun c275 => ?_)
      · exact absurd c275 (by omega)
      · refine wa_iload_n (pc' := 279) dL_chords_278 rfl rfl rfl ?_
        refine wa_bipush (pc' := 281) dL_chords_279 rfl rfl ?_
        refine wa_isub (pc' := 282) dL_chords_281 rfl ?_
        refine wa_goto (pc' := 286) dL_chords_282 (by decide) ?_
        refine wa_istore (pc' := 288) (ls' := [(5, _), (4, _), (3, _), (2, _), (1, _), (0, _)]) dL_chords_286 rfl (by decide) rfl ?_
        refine wa_aload_n (pc' := 289) dL_chords_288 rfl rfl rfl ?_
        refine wa_iload (pc' := 291) dL_chords_289 rfl rfl ?_
        refine wa_iload (pc' := 293) dL_chords_291 rfl rfl ?_
        refine wy_x (pc' := 296) (c0 := (t, nm, s, D, H, ol, ct, k, y, si, fl, wi)) (c1 := (t, nm, s, D, H, ol, ct, k, y, si, fl, wi)) (k_X9_score t nm s D H ol ct k y si fl wi h (beF s.2.2.1 s.2.2.2.2.1 - 100) ⟨by omega, by omega⟩ 1 (Or.inr rfl)) (e_score (by omega) rfl) rfl ok_X9_score lm_L_150 dL_chords_293 rfl rfl rfl rfl rfl (Nat.le_of_ble_eq_true rfl) (Nat.le_of_ble_eq_true rfl) rfl (by omega) (by omega) ?_
        refine wa_aload_n (pc' := 297) dL_chords_296 rfl rfl rfl ?_
        refine wa_iconst (pc' := 298) dL_chords_297 rfl ?_
        refine wa_iconst (pc' := 299) dL_chords_298 rfl ?_
        refine wy_x (pc' := 302) (c0 := (t, nm, s, D, H, ol, ct, k, y, si, fl, wi)) (c1 := (t, nm, s, D, H, ol, ct, k, y, si, fl, wi)) (k_X9_score t nm s D H ol ct k y si fl wi h 0 ⟨by omega, by omega⟩ 0 (Or.inl rfl)) (e_score (by omega) (show _ = scF s.2.2.1 s.2.2.2.2.1 0 0 from rfl)) rfl ok_X9_score lm_L_150 dL_chords_299 rfl rfl rfl rfl rfl (Nat.le_of_ble_eq_true rfl) (Nat.le_of_ble_eq_true rfl) rfl (by omega) (by omega) ?_
        refine wa_icmp_lt (tgt := 333) (pc' := 305) dL_chords_302 (by decide) rfl (by omega) (by omega) (fun c302 => ?_) (fun c302 => ?_)
        · exact absurd c302 (by omega)
        · refine wa_aload_n (pc' := 306) dL_chords_305 rfl rfl rfl ?_
          refine wy_x (pc' := 309) (c0 := (t, nm, s, D, H, ol, ct, k, y, si, fl, wi)) (c1 := (t, nm, s, D, H, ol, ct, k, y, si, fl, wi)) (k_X9_signature t nm s D H ol ct k y si fl wi h) (rfl) rfl ok_X9_signature lm_L_153 dL_chords_306 rfl rfl rfl rfl rfl (Nat.le_of_ble_eq_true rfl) (Nat.le_of_ble_eq_true rfl) rfl (by omega) (by omega) ?_
          refine wa_aload_n (pc' := 310) dL_chords_309 rfl rfl rfl ?_
          refine wy_x (pc' := 313) (c0 := (t, nm, s, D, H, ol, ct, k, y, si, fl, wi)) (c1 := (t, nm, s, D, H, ol, ct, k, y, si, fl, wi)) (k_X9_tonic t nm s D H ol ct k y si fl wi h) (rfl) rfl ok_X9_tonic lm_L_138 dL_chords_310 rfl rfl rfl rfl rfl (Nat.le_of_ble_eq_true rfl) (Nat.le_of_ble_eq_true rfl) rfl (by omega) (by omega) ?_
          refine wa_aload_n (pc' := 314) dL_chords_313 rfl rfl rfl ?_
          refine wy_x (pc' := 317) (c0 := (t, nm, s, D, H, ol, ct, k, y, si, fl, wi)) (c1 := (t, nm, s, D, H, ol, ct, k, y, si, fl, wi)) (k_X9_isMinor t nm s D H ol ct k y si fl wi h) (rfl) rfl ok_X9_isMinor lm_L_156 dL_chords_314 rfl rfl rfl rfl rfl (Nat.le_of_ble_eq_true rfl) (Nat.le_of_ble_eq_true rfl) rfl (by omega) (by omega) ?_
          refine wa_if_eq (tgt := 324) (pc' := 320) dL_chords_317 (by decide) rfl (by omega) (fun c317 => ?_) (fun c317 => ?_)
          · refine wa_iconst (pc' := 325) dL_chords_324 rfl ?_
            refine wa_isub (pc' := 326) dL_chords_325 rfl ?_
            refine wa_icmp_ne (tgt := 333) (pc' := 329) dL_chords_326 (by decide) rfl (by omega) (by omega) (fun c326 => ?_) (fun c326 => ?_)
            · exact absurd c326 (by omega)
            · refine wa_iconst (pc' := 330) dL_chords_329 rfl ?_
              refine wa_goto (pc' := 334) dL_chords_330 (by decide) ?_
              refine wa_zret dL_chords_334 rfl (by omega) (by omega) (by omega) ?_
              first | exact zLP_i ⟨rfl, nm, hnm, rfl⟩ rfl | omega
          · refine wa_iconst (pc' := 321) dL_chords_320 rfl ?_
            refine wa_goto (pc' := 325) dL_chords_321 (by decide) ?_
            refine wa_isub (pc' := 326) dL_chords_325 rfl ?_
            refine wa_icmp_ne (tgt := 333) (pc' := 329) dL_chords_326 (by decide) rfl (by omega) (by omega) (fun c326 => ?_) (fun c326 => ?_)
            · exact absurd c326 (by omega)
            · refine wa_iconst (pc' := 330) dL_chords_329 rfl ?_
              refine wa_goto (pc' := 334) dL_chords_330 (by decide) ?_
              refine wa_zret dL_chords_334 rfl (by omega) (by omega) (by omega) ?_
              first | exact zLP_i ⟨rfl, nm, hnm, rfl⟩ rfl | omega
  · have b1 := scF_b s.2.2.1 (sigO (beF s.2.2.1 s.2.2.2.2.1) 0) 0 z4
    have b2 := beF_c s.2.2.1 s.2.2.2.2.1
    refine wa_aload_n (pc' := 256) dL_chords_255 rfl rfl rfl ?_
    refine wy_x (pc' := 259) (c0 := (t, nm, s, D, H, ol, ct, k, y, si, fl, wi)) (c1 := (t, nm, s, D, H, ol, ct, k, y, si, fl, wi)) (k_X9_findKey t nm s D H ol ct k y si fl wi h) (rfl) rfl ok_X9_findKey lm_L_147 dL_chords_256 rfl rfl rfl rfl rfl (Nat.le_of_ble_eq_true rfl) (Nat.le_of_ble_eq_true rfl) rfl (by omega) (by omega) ?_
    refine wa_istore_n (pc' := 260) (ls' := [(3, _), (2, _), (1, _), (0, _)]) dL_chords_259 rfl rfl (by decide) rfl ?_
    refine wa_iload_n (pc' := 261) dL_chords_260 rfl rfl rfl ?_
    refine wa_bipush (pc' := 263) dL_chords_261 rfl rfl ?_
    refine wa_icmp_lt (tgt := 270) (pc' := 266) dL_chords_263 (by decide) rfl (by omega) (by omega) (fun c263 => ?_) (fun c263 => ?_)
    · refine wa_iconst (pc' := 271) dL_chords_270 rfl ?_
      refine wa_istore (pc' := 273) (ls' := [(4, _), (3, _), (2, _), (1, _), (0, _)]) dL_chords_271 rfl (by decide) rfl ?_
      refine wa_iload (pc' := 275) dL_chords_273 rfl rfl ?_
      refine wa_if_eq (tgt := 285) (pc' := 278) dL_chords_275 (by decide) rfl (by omega) (fun c275 => ?_) (fun c275 => ?_)
      · refine wa_iload_n (pc' := 286) dL_chords_285 rfl rfl rfl ?_
        refine wa_istore (pc' := 288) (ls' := [(5, _), (4, _), (3, _), (2, _), (1, _), (0, _)]) dL_chords_286 rfl (by decide) rfl ?_
        refine wa_aload_n (pc' := 289) dL_chords_288 rfl rfl rfl ?_
        refine wa_iload (pc' := 291) dL_chords_289 rfl rfl ?_
        refine wa_iload (pc' := 293) dL_chords_291 rfl rfl ?_
        refine wy_x (pc' := 296) (c0 := (t, nm, s, D, H, ol, ct, k, y, si, fl, wi)) (c1 := (t, nm, s, D, H, ol, ct, k, y, si, fl, wi)) (k_X9_score t nm s D H ol ct k y si fl wi h (beF s.2.2.1 s.2.2.2.2.1) ⟨by omega, by omega⟩ 0 (Or.inl rfl)) (e_score (by omega) rfl) rfl ok_X9_score lm_L_150 dL_chords_293 rfl rfl rfl rfl rfl (Nat.le_of_ble_eq_true rfl) (Nat.le_of_ble_eq_true rfl) rfl (by omega) (by omega) ?_
        refine wa_aload_n (pc' := 297) dL_chords_296 rfl rfl rfl ?_
        refine wa_iconst (pc' := 298) dL_chords_297 rfl ?_
        refine wa_iconst (pc' := 299) dL_chords_298 rfl ?_
        refine wy_x (pc' := 302) (c0 := (t, nm, s, D, H, ol, ct, k, y, si, fl, wi)) (c1 := (t, nm, s, D, H, ol, ct, k, y, si, fl, wi)) (k_X9_score t nm s D H ol ct k y si fl wi h 0 ⟨by omega, by omega⟩ 0 (Or.inl rfl)) (e_score (by omega) (show _ = scF s.2.2.1 s.2.2.2.2.1 0 0 from rfl)) rfl ok_X9_score lm_L_150 dL_chords_299 rfl rfl rfl rfl rfl (Nat.le_of_ble_eq_true rfl) (Nat.le_of_ble_eq_true rfl) rfl (by omega) (by omega) ?_
        refine wa_icmp_lt (tgt := 333) (pc' := 305) dL_chords_302 (by decide) rfl (by omega) (by omega) (fun c302 => ?_) (fun c302 => ?_)
        · exact absurd c302 (by omega)
        · refine wa_aload_n (pc' := 306) dL_chords_305 rfl rfl rfl ?_
          refine wy_x (pc' := 309) (c0 := (t, nm, s, D, H, ol, ct, k, y, si, fl, wi)) (c1 := (t, nm, s, D, H, ol, ct, k, y, si, fl, wi)) (k_X9_signature t nm s D H ol ct k y si fl wi h) (rfl) rfl ok_X9_signature lm_L_153 dL_chords_306 rfl rfl rfl rfl rfl (Nat.le_of_ble_eq_true rfl) (Nat.le_of_ble_eq_true rfl) rfl (by omega) (by omega) ?_
          refine wa_aload_n (pc' := 310) dL_chords_309 rfl rfl rfl ?_
          refine wy_x (pc' := 313) (c0 := (t, nm, s, D, H, ol, ct, k, y, si, fl, wi)) (c1 := (t, nm, s, D, H, ol, ct, k, y, si, fl, wi)) (k_X9_tonic t nm s D H ol ct k y si fl wi h) (rfl) rfl ok_X9_tonic lm_L_138 dL_chords_310 rfl rfl rfl rfl rfl (Nat.le_of_ble_eq_true rfl) (Nat.le_of_ble_eq_true rfl) rfl (by omega) (by omega) ?_
          refine wa_aload_n (pc' := 314) dL_chords_313 rfl rfl rfl ?_
          refine wy_x (pc' := 317) (c0 := (t, nm, s, D, H, ol, ct, k, y, si, fl, wi)) (c1 := (t, nm, s, D, H, ol, ct, k, y, si, fl, wi)) (k_X9_isMinor t nm s D H ol ct k y si fl wi h) (rfl) rfl ok_X9_isMinor lm_L_156 dL_chords_314 rfl rfl rfl rfl rfl (Nat.le_of_ble_eq_true rfl) (Nat.le_of_ble_eq_true rfl) rfl (by omega) (by omega) ?_
          refine wa_if_eq (tgt := 324) (pc' := 320) dL_chords_317 (by decide) rfl (by omega) (fun c317 => ?_) (fun c317 => ?_)
          · refine wa_iconst (pc' := 325) dL_chords_324 rfl ?_
            refine wa_isub (pc' := 326) dL_chords_325 rfl ?_
            refine wa_icmp_ne (tgt := 333) (pc' := 329) dL_chords_326 (by decide) rfl (by omega) (by omega) (fun c326 => ?_) (fun c326 => ?_)
            · exact absurd c326 (by omega)
            · refine wa_iconst (pc' := 330) dL_chords_329 rfl ?_
              refine wa_goto (pc' := 334) dL_chords_330 (by decide) ?_
              refine wa_zret dL_chords_334 rfl (by omega) (by omega) (by omega) ?_
              first | exact zLP_i ⟨rfl, nm, hnm, rfl⟩ rfl | omega
          · refine wa_iconst (pc' := 321) dL_chords_320 rfl ?_
            refine wa_goto (pc' := 325) dL_chords_321 (by decide) ?_
            refine wa_isub (pc' := 326) dL_chords_325 rfl ?_
            refine wa_icmp_ne (tgt := 333) (pc' := 329) dL_chords_326 (by decide) rfl (by omega) (by omega) (fun c326 => ?_) (fun c326 => ?_)
            · exact absurd c326 (by omega)
            · refine wa_iconst (pc' := 330) dL_chords_329 rfl ?_
              refine wa_goto (pc' := 334) dL_chords_330 (by decide) ?_
              refine wa_zret dL_chords_334 rfl (by omega) (by omega) (by omega) ?_
              first | exact zLP_i ⟨rfl, nm, hnm, rfl⟩ rfl | omega
      · exact absurd c275 (by omega)
    · exact absurd c263 (by omega)
set_option maxRecDepth 10000 in
set_option maxHeartbeats 2000000 in
theorem l_chords217 (t nm : zRw) (s D : zSh) (H : Nat → zSh) (ol ct : Int) (k : zKd) (y : zLy) (si fl wi : Int) (h : okC (t, nm, s, D, H, ol, ct, k, y, si, fl, wi)) : ∀ (m : Nat) (fr : Int) (nc ns : Nat), 0 ≤ fr → fr + m = 8 → nc + 3 * m + 4 ≤ 1000 → ns + 18 * m + 24 ≤ 6000 → Wa q_L_chords 10 1000 6000 53 (zLP fun v c => v = zI 1 ∧ ∃ nm1 : zRw, (0 ≤ nm1.1 ∧ nm1.1 ≤ 680) ∧ c = (t, nm1, s, D, H, ol, ct, k, y, si, fl, wi)) 217 [(3, zI fr), (2, zI (efF s.2.2.1 s.2.2.2.2.1)), (1, zI s.2.2.2.2.1), (0, zR 0)] [] (wCS (t, nm, s, D, H, ol, ct, k, y, si, fl, wi)) nc ns := by
  obtain ⟨hT9, hnm, hs9, hD9, hH9, hol, hct, hk9, hq9, hsi, hfl, hwi⟩ := id h
  obtain ⟨z1, z2, zT1, z4, zF1, zL1⟩ := id hs9.1
  have zNm := hs9.2.1
  have zg := hs9.2.2.1
  have zm := hs9.2.2.2.1
  intro m
  induction m with
  | zero =>
    intro fr nc ns h0 h1 hnc hns
    refine wa_iload_n (pc' := 218) dL_chords_217 rfl rfl rfl ?_
    refine wa_bipush (pc' := 220) dL_chords_218 rfl rfl ?_
    refine wa_icmp_ge (tgt := 255) (pc' := 223) dL_chords_220 (by decide) rfl (by omega) (by omega) (fun c220 => ?_) (fun c220 => ?_)
    · exact l_chords255 t nm s D H ol ct k y si fl wi h _ _ _ _ _ (by omega) (by omega)
    · exact absurd c220 (by omega)
  | succ m ih =>
    intro fr nc ns h0 h1 hnc hns
    obtain ⟨e1, e2⟩ := efF_min s.2.2.1 (cc := s.2.2.2.2.1) (fr := fr) (by omega)
    have e3 := dfF_n s.2.2.1 (cc := s.2.2.2.2.1) fr z4.1
    have e4 := dfF_b s.2.2.1 (cc := s.2.2.2.2.1) (fr := fr) z4 (by omega)
    have e5 := dfF_b s.2.2.1 (cc := s.2.2.2.2.1) (fr := efF s.2.2.1 s.2.2.2.2.1) z4 e2
    refine wa_iload_n (pc' := 218) dL_chords_217 rfl rfl rfl ?_
    refine wa_bipush (pc' := 220) dL_chords_218 rfl rfl ?_
    refine wa_icmp_ge (tgt := 255) (pc' := 223) dL_chords_220 (by decide) rfl (by omega) (by omega) (fun c220 => ?_) (fun c220 => ?_)
    · exact absurd c220 (by omega)
    · refine wa_aload_n (pc' := 224) dL_chords_223 rfl rfl rfl ?_
      refine wa_iload_n (pc' := 225) dL_chords_224 rfl rfl rfl ?_
      refine wy_x (pc' := 228) (c0 := (t, nm, s, D, H, ol, ct, k, y, si, fl, wi)) (c1 := (t, nm, s, D, H, ol, ct, k, y, si, fl, wi)) (k_X9_difficulty t nm s D H ol ct k y si fl wi h fr ⟨by omega, by omega⟩) (e_difficulty (by omega)) rfl ok_X9_difficulty lm_L_144 dL_chords_225 rfl rfl rfl rfl rfl (Nat.le_of_ble_eq_true rfl) (Nat.le_of_ble_eq_true rfl) rfl (by omega) (by omega) ?_
      refine wa_aload_n (pc' := 229) dL_chords_228 rfl rfl rfl ?_
      refine wa_iload_n (pc' := 230) dL_chords_229 rfl rfl rfl ?_
      refine wy_x (pc' := 233) (c0 := (t, nm, s, D, H, ol, ct, k, y, si, fl, wi)) (c1 := (t, nm, s, D, H, ol, ct, k, y, si, fl, wi)) (k_X9_difficulty t nm s D H ol ct k y si fl wi h (efF s.2.2.1 s.2.2.2.2.1) ⟨by omega, by omega⟩) (e_difficulty (by omega)) rfl ok_X9_difficulty lm_L_144 dL_chords_230 rfl rfl rfl rfl rfl (Nat.le_of_ble_eq_true rfl) (Nat.le_of_ble_eq_true rfl) rfl (by omega) (by omega) ?_
      refine wa_icmp_lt (tgt := 247) (pc' := 236) dL_chords_233 (by decide) rfl (by omega) (by omega) (fun c233 => ?_) (fun c233 => ?_)
      · exact absurd c233 (by omega)
      · refine wa_aload_n (pc' := 237) dL_chords_236 rfl rfl rfl ?_
        refine wa_iload_n (pc' := 238) dL_chords_237 rfl rfl rfl ?_
        refine wy_x (pc' := 241) (c0 := (t, nm, s, D, H, ol, ct, k, y, si, fl, wi)) (c1 := (t, nm, s, D, H, ol, ct, k, y, si, fl, wi)) (k_X9_difficulty t nm s D H ol ct k y si fl wi h fr ⟨by omega, by omega⟩) (e_difficulty (by omega)) rfl ok_X9_difficulty lm_L_144 dL_chords_238 rfl rfl rfl rfl rfl (Nat.le_of_ble_eq_true rfl) (Nat.le_of_ble_eq_true rfl) rfl (by omega) (by omega) ?_
        refine wa_iload_n (pc' := 242) dL_chords_241 rfl rfl rfl ?_
        refine wa_iload_n (pc' := 243) dL_chords_242 rfl rfl rfl ?_
        refine wa_iadd (pc' := 244) dL_chords_243 rfl ?_
        refine wa_icmp_ge (tgt := 249) (pc' := 247) dL_chords_244 (by decide) rfl (by omega) (by omega) (fun c244 => ?_) (fun c244 => ?_)
        · refine wa_iinc (pc' := 252) (ls' := [(3, _), (2, _), (1, _), (0, _)]) dL_chords_249 rfl rfl (by decide) rfl ?_
          refine wa_goto (pc' := 217) dL_chords_252 (by decide) ?_
          refine wa_sub [0, 1, 2, 3] rfl ?_
          exact ih (fr + 1) _ _ (by omega) (by omega) (by omega) (by omega)
        · exact absurd c244 (by omega)
set_option maxRecDepth 10000 in
set_option maxHeartbeats 2000000 in
theorem l_chords210 (t nm : zRw) (s D : zSh) (H : Nat → zSh) (ol ct : Int) (k : zKd) (y : zLy) (si fl wi : Int) (h : okC (t, nm, s, D, H, ol, ct, k, y, si, fl, wi)) (i : Int) (nc ns : Nat) (hnc : nc + 28 ≤ 1000) (hns : ns + 168 ≤ 6000) : Wa q_L_chords 10 1000 6000 53 (zLP fun v c => v = zI 1 ∧ ∃ nm1 : zRw, (0 ≤ nm1.1 ∧ nm1.1 ≤ 680) ∧ c = (t, nm1, s, D, H, ol, ct, k, y, si, fl, wi)) 210 [(2, zI i), (1, zI s.2.2.2.2.1), (0, zR 0)] [] (wCS (t, nm, s, D, H, ol, ct, k, y, si, fl, wi)) nc ns := by
  refine wa_aload_n (pc' := 211) dL_chords_210 rfl rfl rfl ?_
  refine wy_x (pc' := 214) (c0 := (t, nm, s, D, H, ol, ct, k, y, si, fl, wi)) (c1 := (t, nm, s, D, H, ol, ct, k, y, si, fl, wi)) (k_X9_bestCapo t nm s D H ol ct k y si fl wi h) (rfl) rfl ok_X9_bestCapo lm_L_141 dL_chords_211 rfl rfl rfl rfl rfl (Nat.le_of_ble_eq_true rfl) (Nat.le_of_ble_eq_true rfl) rfl (by omega) (by omega) ?_
  refine wa_istore_n (pc' := 215) (ls' := [(2, _), (1, _), (0, _)]) dL_chords_214 rfl rfl (by decide) rfl ?_
  refine wa_iconst (pc' := 216) dL_chords_215 rfl ?_
  refine wa_istore_n (pc' := 217) (ls' := [(3, _), (2, _), (1, _), (0, _)]) dL_chords_216 rfl rfl (by decide) rfl ?_
  refine wa_sub [0, 1, 2, 3] rfl ?_
  exact l_chords217 t nm s D H ol ct k y si fl wi h 8 0 _ _ (by decide) (by decide) (by omega) (by omega)
set_option maxRecDepth 10000 in
set_option maxHeartbeats 2000000 in
theorem l_chords7 (t : zRw) (s D : zSh) (H : Nat → zSh) (ol ct : Int) (k : zKd) (y : zLy) (si fl wi : Int) (hw : okW s) : ∀ (m : Nat) (i : Int) (nm : zRw) (nc ns : Nat), 0 ≤ i → i + m = s.2.2.2.2.1 → okC (t, nm, s, D, H, ol, ct, k, y, si, fl, wi) → nc + 24 * m + 28 ≤ 1000 → ns + 144 * m + 168 ≤ 6000 → Wa q_L_chords 10 1000 6000 53 (zLP fun v c => v = zI 1 ∧ ∃ nm1 : zRw, (0 ≤ nm1.1 ∧ nm1.1 ≤ 680) ∧ c = (t, nm1, s, D, H, ol, ct, k, y, si, fl, wi)) 7 [(2, zI i), (1, zI s.2.2.2.2.1), (0, zR 0)] [] (wCS (t, nm, s, D, H, ol, ct, k, y, si, fl, wi)) nc ns := by
  intro m
  induction m with
  | zero =>
    intro i nm nc ns h0 h1 h hnc hns
    have z4 := h.2.2.1.1.2.2.2.1
    refine wa_iload_n (pc' := 8) dL_chords_7 rfl rfl rfl ?_
    refine wa_iload_n (pc' := 9) dL_chords_8 rfl rfl rfl ?_
    refine wa_icmp_ge (tgt := 210) (pc' := 12) dL_chords_9 (by decide) rfl (by omega) (by omega) (fun c9 => ?_) (fun c9 => ?_)
    · exact l_chords210 t nm s D H ol ct k y si fl wi h _ _ _ (by omega) (by omega)
    · exact absurd c9 (by omega)
  | succ m ih =>
    intro i nm nc ns h0 h1 h hnc hns
    obtain ⟨hT9, hnm, hs9, hD9, hH9, hol, hct, hk9, hq9, hsi, hfl, hwi⟩ := id h
    obtain ⟨z1, z2, zT1, z4, zF1, zL1⟩ := id hs9.1
    have zNm := hs9.2.1
    have zg := hs9.2.2.1
    have zm := hs9.2.2.2.1
    have hi : 0 ≤ i ∧ i < s.2.2.2.2.1 := by omega
    have zl := hs9.2.2.2.2 i hi.1 hi.2
    have zc9 := hw.2.2.2.1 i hi.1 hi.2
    have zt1 := zT1 (s.2.2.1 (i * 5 + 0)) (by omega) (by omega)
    have zt2 := zT1 (s.2.2.1 (i * 5 + 0) + 1) (by omega) (by omega)
    obtain ⟨n1, n2, n3⟩ := zNm i hi.1 hi.2
    have hh := name_h (s.2.2.1 (i * 5 + 2)) (s.2.2.1 (i * 5 + 3)) (s.2.2.1 (i * 5 + 4))
    have b1 := nm_b hs9.2.1 hi hnm.1
    have h1 := okC_n h b1
    have b2 := nm_b hs9.2.1 hi b1.1
    have h2 := okC_n h b2
    have hp := pcl_b (s.2.2.1 (i * 5 + 2))
    have ht := ton_c s.2.2.2.2.2.1 s.2.2.2.2.2.2 zm
    have hpt := pcl_b (tonO s.2.2.2.2.2.1 s.2.2.2.2.2.2)
    obtain ⟨-, hdg, hdt⟩ := dg_f hp zg zm
    have hso : 0 < i → (s.2.2.1 ((i - 1) * 5 + 0) < s.2.2.1 (i * 5 + 0) ∨ (s.2.2.1 ((i - 1) * 5 + 0) = s.2.2.1 (i * 5 + 0) ∧ s.2.2.1 ((i - 1) * 5 + 1) ≤ s.2.2.1 (i * 5 + 1))) := fun hp => hw.2.2.2.2 (i - 1) i (by omega) (by omega) hi.2
    have hlo : 0 < i → (0 ≤ s.2.2.1 ((i - 1) * 5 + 0) ∧ s.2.2.1 ((i - 1) * 5 + 0) < s.2.2.2.1) := fun hp => hs9.2.2.2.2 (i - 1) (by omega) (by omega)
    have hcm : 0 < i → (0 ≤ ctF s (i - 1) ∧ ctF s (i - 1) ≤ 6) := fun hp => common6 _ (zNm (i - 1) (by omega) (by omega)).2.1
    have hfi := zF1 (i * 5 + 1) (by omega) (by omega)
    have hfj : 0 < i → (-1000 ≤ s.2.2.1 ((i - 1) * 5 + 1) ∧ s.2.2.1 ((i - 1) * 5 + 1) ≤ 1000) := fun hp => zF1 _ (by omega) (by omega)
    refine wa_iload_n (pc' := 8) dL_chords_7 rfl rfl rfl ?_
    refine wa_iload_n (pc' := 9) dL_chords_8 rfl rfl rfl ?_
    refine wa_icmp_ge (tgt := 210) (pc' := 12) dL_chords_9 (by decide) rfl (by omega) (by omega) (fun c9 => ?_) (fun c9 => ?_)
    · exact absurd c9 (by omega)
    · refine wa_aload_n (pc' := 13) dL_chords_12 rfl rfl rfl ?_
      refine wa_iload_n (pc' := 14) dL_chords_13 rfl rfl rfl ?_
      refine wy_x (pc' := 17) (c0 := (t, nm, s, D, H, ol, ct, k, y, si, fl, wi)) (c1 := (t, nm, s, D, H, ol, ct, k, y, si, fl, wi)) (k_X9_lineOf t nm s D H ol ct k y si fl wi h i ⟨by omega, by omega⟩) (e_lineOf hi rfl) rfl ok_X9_lineOf lm_L_120 dL_chords_14 rfl rfl rfl rfl rfl (Nat.le_of_ble_eq_true rfl) (Nat.le_of_ble_eq_true rfl) rfl (by omega) (by omega) ?_
      refine wa_istore_n (pc' := 18) (ls' := [(3, _), (2, _), (1, _), (0, _)]) dL_chords_17 rfl rfl (by decide) rfl ?_
      refine wa_iload_n (pc' := 19) dL_chords_18 rfl rfl rfl ?_
      refine wa_if_lt (tgt := 91) (pc' := 22) dL_chords_19 (by decide) rfl (by omega) (fun c19 => ?_) (fun c19 => ?_)
      · exact absurd c19 (by omega)
      · refine wa_iload_n (pc' := 23) dL_chords_22 rfl rfl rfl ?_
        refine wa_aload_n (pc' := 24) dL_chords_23 rfl rfl rfl ?_
        refine wy_x (pc' := 27) (c0 := (t, nm, s, D, H, ol, ct, k, y, si, fl, wi)) (c1 := (t, nm, s, D, H, ol, ct, k, y, si, fl, wi)) (k_X9_lines t nm s D H ol ct k y si fl wi h) (rfl) rfl ok_X9_lines lm_L_96 dL_chords_24 rfl rfl rfl rfl rfl (Nat.le_of_ble_eq_true rfl) (Nat.le_of_ble_eq_true rfl) rfl (by omega) (by omega) ?_
        refine wa_icmp_ge (tgt := 91) (pc' := 30) dL_chords_27 (by decide) rfl (by omega) (by omega) (fun c27 => ?_) (fun c27 => ?_)
        · exact absurd c27 (by omega)
        · refine wa_aload_n (pc' := 31) dL_chords_30 rfl rfl rfl ?_
          refine wa_iload_n (pc' := 32) dL_chords_31 rfl rfl rfl ?_
          refine wy_x (pc' := 35) (c0 := (t, nm, s, D, H, ol, ct, k, y, si, fl, wi)) (c1 := (t, nm, s, D, H, ol, ct, k, y, si, fl, wi)) (k_X9_columnOf t nm s D H ol ct k y si fl wi h i ⟨by omega, by omega⟩) (e_columnOf hi rfl) rfl ok_X9_columnOf lm_L_123 dL_chords_32 rfl rfl rfl rfl rfl (Nat.le_of_ble_eq_true rfl) (Nat.le_of_ble_eq_true rfl) rfl (by omega) (by omega) ?_
          refine wa_if_lt (tgt := 91) (pc' := 38) dL_chords_35 (by decide) rfl (by omega) (fun c35 => ?_) (fun c35 => ?_)
          · exact absurd c35 (by omega)
          · refine wa_aload_n (pc' := 39) dL_chords_38 rfl rfl rfl ?_
            refine wa_iload_n (pc' := 40) dL_chords_39 rfl rfl rfl ?_
            refine wy_x (pc' := 43) (c0 := (t, nm, s, D, H, ol, ct, k, y, si, fl, wi)) (c1 := (t, nm, s, D, H, ol, ct, k, y, si, fl, wi)) (k_X9_columnOf t nm s D H ol ct k y si fl wi h i ⟨by omega, by omega⟩) (e_columnOf hi rfl) rfl ok_X9_columnOf lm_L_123 dL_chords_40 rfl rfl rfl rfl rfl (Nat.le_of_ble_eq_true rfl) (Nat.le_of_ble_eq_true rfl) rfl (by omega) (by omega) ?_
            refine wa_aload_n (pc' := 44) dL_chords_43 rfl rfl rfl ?_
            refine wa_iload_n (pc' := 45) dL_chords_44 rfl rfl rfl ?_
            refine wy_x (pc' := 48) (c0 := (t, nm, s, D, H, ol, ct, k, y, si, fl, wi)) (c1 := (t, nm, s, D, H, ol, ct, k, y, si, fl, wi)) (k_X9_lyrics t nm s D H ol ct k y si fl wi h (s.2.2.1 (i * 5 + 0)) ⟨by omega, by omega⟩) (e_lyrics (by omega)) rfl ok_X9_lyrics lm_L_103 dL_chords_45 rfl rfl rfl rfl rfl (Nat.le_of_ble_eq_true rfl) (Nat.le_of_ble_eq_true rfl) rfl (by omega) (by omega) ?_
            refine wa_icmp_gt (tgt := 91) (pc' := 51) dL_chords_48 (by decide) rfl (by omega) (by omega) (fun c48 => ?_) (fun c48 => ?_)
            · exact absurd c48 (by omega)
            · refine wa_aload_n (pc' := 52) dL_chords_51 rfl rfl rfl ?_
              refine wa_iload_n (pc' := 53) dL_chords_52 rfl rfl rfl ?_
              refine wa_iconst (pc' := 54) dL_chords_53 rfl ?_
              refine wy_x (pc' := 57) (c0 := (t, nm, s, D, H, ol, ct, k, y, si, fl, wi)) (c1 := (t, rL (rC nm 0) (nameL (s.2.2.1 (i * 5 + 2)) (s.2.2.1 (i * 5 + 3)) (s.2.2.1 (i * 5 + 4))), s, D, H, ol, ct, k, y, si, fl, wi)) (k_X9_nameChar t nm s D H ol ct k y si fl wi h i ⟨by omega, by omega⟩ 0 ⟨by omega, by omega⟩) (e_name hi hnm.1) rfl ok_X9_nameChar lm_L_126 dL_chords_54 rfl rfl rfl rfl rfl (Nat.le_of_ble_eq_true rfl) (Nat.le_of_ble_eq_true rfl) rfl (by omega) (by omega) ?_
              refine wa_bipush (pc' := 59) dL_chords_57 rfl rfl ?_
              refine wa_icmp_lt (tgt := 91) (pc' := 62) dL_chords_59 (by decide) rfl (by omega) (by omega) (fun c59 => ?_) (fun c59 => ?_)
              · exact absurd c59 (by omega)
              · refine wa_aload_n (pc' := 63) dL_chords_62 rfl rfl rfl ?_
                refine wa_iload_n (pc' := 64) dL_chords_63 rfl rfl rfl ?_
                refine wa_iconst (pc' := 65) dL_chords_64 rfl ?_
                refine wy_x (pc' := 68) (c0 := (t, rL (rC nm 0) (nameL (s.2.2.1 (i * 5 + 2)) (s.2.2.1 (i * 5 + 3)) (s.2.2.1 (i * 5 + 4))), s, D, H, ol, ct, k, y, si, fl, wi)) (c1 := (t, rL (rC (rL (rC nm 0) (nameL (s.2.2.1 (i * 5 + 2)) (s.2.2.1 (i * 5 + 3)) (s.2.2.1 (i * 5 + 4)))) 0) (nameL (s.2.2.1 (i * 5 + 2)) (s.2.2.1 (i * 5 + 3)) (s.2.2.1 (i * 5 + 4))), s, D, H, ol, ct, k, y, si, fl, wi)) (k_X9_nameChar t (rL (rC nm 0) (nameL (s.2.2.1 (i * 5 + 2)) (s.2.2.1 (i * 5 + 3)) (s.2.2.1 (i * 5 + 4)))) s D H ol ct k y si fl wi h1 i ⟨by omega, by omega⟩ 0 ⟨by omega, by omega⟩) (e_name hi b1.1) rfl ok_X9_nameChar lm_L_126 dL_chords_65 rfl rfl rfl rfl rfl (Nat.le_of_ble_eq_true rfl) (Nat.le_of_ble_eq_true rfl) rfl (by omega) (by omega) ?_
                refine wa_bipush (pc' := 70) dL_chords_68 rfl rfl ?_
                refine wa_icmp_gt (tgt := 91) (pc' := 73) dL_chords_70 (by decide) rfl (by omega) (by omega) (fun c70 => ?_) (fun c70 => ?_)
                · exact absurd c70 (by omega)
                · refine wa_aload_n (pc' := 74) dL_chords_73 rfl rfl rfl ?_
                  refine wa_iload_n (pc' := 75) dL_chords_74 rfl rfl rfl ?_
                  refine wy_x (pc' := 78) (c0 := (t, rL (rC (rL (rC nm 0) (nameL (s.2.2.1 (i * 5 + 2)) (s.2.2.1 (i * 5 + 3)) (s.2.2.1 (i * 5 + 4)))) 0) (nameL (s.2.2.1 (i * 5 + 2)) (s.2.2.1 (i * 5 + 3)) (s.2.2.1 (i * 5 + 4))), s, D, H, ol, ct, k, y, si, fl, wi)) (c1 := (t, rL (rC (rL (rC nm 0) (nameL (s.2.2.1 (i * 5 + 2)) (s.2.2.1 (i * 5 + 3)) (s.2.2.1 (i * 5 + 4)))) 0) (nameL (s.2.2.1 (i * 5 + 2)) (s.2.2.1 (i * 5 + 3)) (s.2.2.1 (i * 5 + 4))), s, D, H, ol, ct, k, y, si, fl, wi)) (k_X9_degree t (rL (rC (rL (rC nm 0) (nameL (s.2.2.1 (i * 5 + 2)) (s.2.2.1 (i * 5 + 3)) (s.2.2.1 (i * 5 + 4)))) 0) (nameL (s.2.2.1 (i * 5 + 2)) (s.2.2.1 (i * 5 + 3)) (s.2.2.1 (i * 5 + 4)))) s D H ol ct k y si fl wi h2 i ⟨by omega, by omega⟩) (e_degree hi) rfl ok_X9_degree lm_L_129 dL_chords_75 rfl rfl rfl rfl rfl (Nat.le_of_ble_eq_true rfl) (Nat.le_of_ble_eq_true rfl) rfl (by omega) (by omega) ?_
                  refine wa_if_lt (tgt := 91) (pc' := 81) dL_chords_78 (by decide) rfl (by omega) (fun c78 => ?_) (fun c78 => ?_)
                  · exact absurd c78 (by omega)
                  · refine wa_aload_n (pc' := 82) dL_chords_81 rfl rfl rfl ?_
                    refine wa_iload_n (pc' := 83) dL_chords_82 rfl rfl rfl ?_
                    refine wy_x (pc' := 86) (c0 := (t, rL (rC (rL (rC nm 0) (nameL (s.2.2.1 (i * 5 + 2)) (s.2.2.1 (i * 5 + 3)) (s.2.2.1 (i * 5 + 4)))) 0) (nameL (s.2.2.1 (i * 5 + 2)) (s.2.2.1 (i * 5 + 3)) (s.2.2.1 (i * 5 + 4))), s, D, H, ol, ct, k, y, si, fl, wi)) (c1 := (t, rL (rC (rL (rC nm 0) (nameL (s.2.2.1 (i * 5 + 2)) (s.2.2.1 (i * 5 + 3)) (s.2.2.1 (i * 5 + 4)))) 0) (nameL (s.2.2.1 (i * 5 + 2)) (s.2.2.1 (i * 5 + 3)) (s.2.2.1 (i * 5 + 4))), s, D, H, ol, ct, k, y, si, fl, wi)) (k_X9_degree t (rL (rC (rL (rC nm 0) (nameL (s.2.2.1 (i * 5 + 2)) (s.2.2.1 (i * 5 + 3)) (s.2.2.1 (i * 5 + 4)))) 0) (nameL (s.2.2.1 (i * 5 + 2)) (s.2.2.1 (i * 5 + 3)) (s.2.2.1 (i * 5 + 4)))) s D H ol ct k y si fl wi h2 i ⟨by omega, by omega⟩) (e_degree hi) rfl ok_X9_degree lm_L_129 dL_chords_83 rfl rfl rfl rfl rfl (Nat.le_of_ble_eq_true rfl) (Nat.le_of_ble_eq_true rfl) rfl (by omega) (by omega) ?_
                    refine wa_bipush (pc' := 88) dL_chords_86 rfl rfl ?_
                    refine wa_icmp_le (tgt := 93) (pc' := 91) dL_chords_88 (by decide) rfl (by omega) (by omega) (fun c88 => ?_) (fun c88 => ?_)
                    · refine wa_iload_n (pc' := 94) dL_chords_93 rfl rfl rfl ?_
                      refine wa_if_le (tgt := 158) (pc' := 97) dL_chords_94 (by decide) rfl (by omega) (fun c94 => ?_) (fun c94 => ?_)
                      · refine wa_aload_n (pc' := 159) dL_chords_158 rfl rfl rfl ?_
                        refine wa_iload_n (pc' := 160) dL_chords_159 rfl rfl rfl ?_
                        refine wy_x (pc' := 163) (c0 := (t, rL (rC (rL (rC nm 0) (nameL (s.2.2.1 (i * 5 + 2)) (s.2.2.1 (i * 5 + 3)) (s.2.2.1 (i * 5 + 4)))) 0) (nameL (s.2.2.1 (i * 5 + 2)) (s.2.2.1 (i * 5 + 3)) (s.2.2.1 (i * 5 + 4))), s, D, H, ol, ct, k, y, si, fl, wi)) (c1 := (t, rL (rC (rL (rC nm 0) (nameL (s.2.2.1 (i * 5 + 2)) (s.2.2.1 (i * 5 + 3)) (s.2.2.1 (i * 5 + 4)))) 0) (nameL (s.2.2.1 (i * 5 + 2)) (s.2.2.1 (i * 5 + 3)) (s.2.2.1 (i * 5 + 4))), s, D, H, ol, ct, k, y, si, fl, wi)) (k_X9_rootOf t (rL (rC (rL (rC nm 0) (nameL (s.2.2.1 (i * 5 + 2)) (s.2.2.1 (i * 5 + 3)) (s.2.2.1 (i * 5 + 4)))) 0) (nameL (s.2.2.1 (i * 5 + 2)) (s.2.2.1 (i * 5 + 3)) (s.2.2.1 (i * 5 + 4)))) s D H ol ct k y si fl wi h2 i ⟨by omega, by omega⟩) (e_rootOf hi rfl) rfl ok_X9_rootOf lm_L_63 dL_chords_160 rfl rfl rfl rfl rfl (Nat.le_of_ble_eq_true rfl) (Nat.le_of_ble_eq_true rfl) rfl (by omega) (by omega) ?_
                        refine wx_n (pc' := 166) (k_L_pitch (s.2.2.1 (i * 5 + 2)) (by omega)) rfl ok_L_pitch lm_L_135 dL_chords_163 rfl rfl rfl (Nat.le_of_ble_eq_true rfl) (Nat.le_of_ble_eq_true rfl) rfl (by omega) (by omega) ?_
                        refine wa_aload_n (pc' := 167) dL_chords_166 rfl rfl rfl ?_
                        refine wy_x (pc' := 170) (c0 := (t, rL (rC (rL (rC nm 0) (nameL (s.2.2.1 (i * 5 + 2)) (s.2.2.1 (i * 5 + 3)) (s.2.2.1 (i * 5 + 4)))) 0) (nameL (s.2.2.1 (i * 5 + 2)) (s.2.2.1 (i * 5 + 3)) (s.2.2.1 (i * 5 + 4))), s, D, H, ol, ct, k, y, si, fl, wi)) (c1 := (t, rL (rC (rL (rC nm 0) (nameL (s.2.2.1 (i * 5 + 2)) (s.2.2.1 (i * 5 + 3)) (s.2.2.1 (i * 5 + 4)))) 0) (nameL (s.2.2.1 (i * 5 + 2)) (s.2.2.1 (i * 5 + 3)) (s.2.2.1 (i * 5 + 4))), s, D, H, ol, ct, k, y, si, fl, wi)) (k_X9_tonic t (rL (rC (rL (rC nm 0) (nameL (s.2.2.1 (i * 5 + 2)) (s.2.2.1 (i * 5 + 3)) (s.2.2.1 (i * 5 + 4)))) 0) (nameL (s.2.2.1 (i * 5 + 2)) (s.2.2.1 (i * 5 + 3)) (s.2.2.1 (i * 5 + 4)))) s D H ol ct k y si fl wi h2) (rfl) rfl ok_X9_tonic lm_L_138 dL_chords_167 rfl rfl rfl rfl rfl (Nat.le_of_ble_eq_true rfl) (Nat.le_of_ble_eq_true rfl) rfl (by omega) (by omega) ?_
                        refine wx_n (pc' := 173) (k_L_pitch (tonO s.2.2.2.2.2.1 s.2.2.2.2.2.2) (by omega)) rfl ok_L_pitch lm_L_135 dL_chords_170 rfl rfl rfl (Nat.le_of_ble_eq_true rfl) (Nat.le_of_ble_eq_true rfl) rfl (by omega) (by omega) ?_
                        refine wa_icmp_ne (tgt := 180) (pc' := 176) dL_chords_173 (by decide) rfl (by omega) (by omega) (fun c173 => ?_) (fun c173 => ?_)
                        · refine wa_iconst (pc' := 181) dL_chords_180 rfl ?_
                          refine wa_istore (pc' := 183) (ls' := [(4, _), (3, _), (2, _), (1, _), (0, _)]) dL_chords_181 rfl (by decide) rfl ?_
                          refine wa_iload (pc' := 185) dL_chords_183 rfl rfl ?_
                          refine wa_aload_n (pc' := 186) dL_chords_185 rfl rfl rfl ?_
                          refine wa_iload_n (pc' := 187) dL_chords_186 rfl rfl rfl ?_
                          refine wy_x (pc' := 190) (c0 := (t, rL (rC (rL (rC nm 0) (nameL (s.2.2.1 (i * 5 + 2)) (s.2.2.1 (i * 5 + 3)) (s.2.2.1 (i * 5 + 4)))) 0) (nameL (s.2.2.1 (i * 5 + 2)) (s.2.2.1 (i * 5 + 3)) (s.2.2.1 (i * 5 + 4))), s, D, H, ol, ct, k, y, si, fl, wi)) (c1 := (t, rL (rC (rL (rC nm 0) (nameL (s.2.2.1 (i * 5 + 2)) (s.2.2.1 (i * 5 + 3)) (s.2.2.1 (i * 5 + 4)))) 0) (nameL (s.2.2.1 (i * 5 + 2)) (s.2.2.1 (i * 5 + 3)) (s.2.2.1 (i * 5 + 4))), s, D, H, ol, ct, k, y, si, fl, wi)) (k_X9_degree t (rL (rC (rL (rC nm 0) (nameL (s.2.2.1 (i * 5 + 2)) (s.2.2.1 (i * 5 + 3)) (s.2.2.1 (i * 5 + 4)))) 0) (nameL (s.2.2.1 (i * 5 + 2)) (s.2.2.1 (i * 5 + 3)) (s.2.2.1 (i * 5 + 4)))) s D H ol ct k y si fl wi h2 i ⟨by omega, by omega⟩) (e_degree hi) rfl ok_X9_degree lm_L_129 dL_chords_187 rfl rfl rfl rfl rfl (Nat.le_of_ble_eq_true rfl) (Nat.le_of_ble_eq_true rfl) rfl (by omega) (by omega) ?_
                          refine wa_iconst (pc' := 191) dL_chords_190 rfl ?_
                          refine wa_icmp_ne (tgt := 198) (pc' := 194) dL_chords_191 (by decide) rfl (by omega) (by omega) (fun c191 => ?_) (fun c191 => ?_)
                          · refine wa_iconst (pc' := 199) dL_chords_198 rfl ?_
                            refine wa_icmp_eq (tgt := 204) (pc' := 202) dL_chords_199 (by decide) rfl (by omega) (by omega) (fun c199 => ?_) (fun c199 => ?_)
                            · refine wa_iinc (pc' := 207) (ls' := [(2, _), (4, _), (3, _), (1, _), (0, _)]) dL_chords_204 rfl rfl (by decide) rfl ?_
                              refine wa_goto (pc' := 7) dL_chords_207 (by decide) ?_
                              refine wa_sub [0, 3, 4] rfl ?_
                              exact (ih (i + 1) (rL (rC (rL (rC nm 0) (nameL (s.2.2.1 (i * 5 + 2)) (s.2.2.1 (i * 5 + 3)) (s.2.2.1 (i * 5 + 4)))) 0) (nameL (s.2.2.1 (i * 5 + 2)) (s.2.2.1 (i * 5 + 3)) (s.2.2.1 (i * 5 + 4)))) _ _ (by omega) (by omega) h2 (by omega) (by omega))
                            · exact absurd c199 (by omega)
                          · refine wa_iconst (pc' := 195) dL_chords_194 rfl ?_
                            refine wa_goto (pc' := 199) dL_chords_195 (by decide) ?_
                            refine wa_icmp_eq (tgt := 204) (pc' := 202) dL_chords_199 (by decide) rfl (by omega) (by omega) (fun c199 => ?_) (fun c199 => ?_)
                            · refine wa_iinc (pc' := 207) (ls' := [(2, _), (4, _), (3, _), (1, _), (0, _)]) dL_chords_204 rfl rfl (by decide) rfl ?_
                              refine wa_goto (pc' := 7) dL_chords_207 (by decide) ?_
                              refine wa_sub [0, 3, 4] rfl ?_
                              exact (ih (i + 1) (rL (rC (rL (rC nm 0) (nameL (s.2.2.1 (i * 5 + 2)) (s.2.2.1 (i * 5 + 3)) (s.2.2.1 (i * 5 + 4)))) 0) (nameL (s.2.2.1 (i * 5 + 2)) (s.2.2.1 (i * 5 + 3)) (s.2.2.1 (i * 5 + 4)))) _ _ (by omega) (by omega) h2 (by omega) (by omega))
                            · exact absurd c199 (by omega)
                        · refine wa_iconst (pc' := 177) dL_chords_176 rfl ?_
                          refine wa_goto (pc' := 181) dL_chords_177 (by decide) ?_
                          refine wa_istore (pc' := 183) (ls' := [(4, _), (3, _), (2, _), (1, _), (0, _)]) dL_chords_181 rfl (by decide) rfl ?_
                          refine wa_iload (pc' := 185) dL_chords_183 rfl rfl ?_
                          refine wa_aload_n (pc' := 186) dL_chords_185 rfl rfl rfl ?_
                          refine wa_iload_n (pc' := 187) dL_chords_186 rfl rfl rfl ?_
                          refine wy_x (pc' := 190) (c0 := (t, rL (rC (rL (rC nm 0) (nameL (s.2.2.1 (i * 5 + 2)) (s.2.2.1 (i * 5 + 3)) (s.2.2.1 (i * 5 + 4)))) 0) (nameL (s.2.2.1 (i * 5 + 2)) (s.2.2.1 (i * 5 + 3)) (s.2.2.1 (i * 5 + 4))), s, D, H, ol, ct, k, y, si, fl, wi)) (c1 := (t, rL (rC (rL (rC nm 0) (nameL (s.2.2.1 (i * 5 + 2)) (s.2.2.1 (i * 5 + 3)) (s.2.2.1 (i * 5 + 4)))) 0) (nameL (s.2.2.1 (i * 5 + 2)) (s.2.2.1 (i * 5 + 3)) (s.2.2.1 (i * 5 + 4))), s, D, H, ol, ct, k, y, si, fl, wi)) (k_X9_degree t (rL (rC (rL (rC nm 0) (nameL (s.2.2.1 (i * 5 + 2)) (s.2.2.1 (i * 5 + 3)) (s.2.2.1 (i * 5 + 4)))) 0) (nameL (s.2.2.1 (i * 5 + 2)) (s.2.2.1 (i * 5 + 3)) (s.2.2.1 (i * 5 + 4)))) s D H ol ct k y si fl wi h2 i ⟨by omega, by omega⟩) (e_degree hi) rfl ok_X9_degree lm_L_129 dL_chords_187 rfl rfl rfl rfl rfl (Nat.le_of_ble_eq_true rfl) (Nat.le_of_ble_eq_true rfl) rfl (by omega) (by omega) ?_
                          refine wa_iconst (pc' := 191) dL_chords_190 rfl ?_
                          refine wa_icmp_ne (tgt := 198) (pc' := 194) dL_chords_191 (by decide) rfl (by omega) (by omega) (fun c191 => ?_) (fun c191 => ?_)
                          · refine wa_iconst (pc' := 199) dL_chords_198 rfl ?_
                            refine wa_icmp_eq (tgt := 204) (pc' := 202) dL_chords_199 (by decide) rfl (by omega) (by omega) (fun c199 => ?_) (fun c199 => ?_)
                            · refine wa_iinc (pc' := 207) (ls' := [(2, _), (4, _), (3, _), (1, _), (0, _)]) dL_chords_204 rfl rfl (by decide) rfl ?_
                              refine wa_goto (pc' := 7) dL_chords_207 (by decide) ?_
                              refine wa_sub [0, 3, 4] rfl ?_
                              exact (ih (i + 1) (rL (rC (rL (rC nm 0) (nameL (s.2.2.1 (i * 5 + 2)) (s.2.2.1 (i * 5 + 3)) (s.2.2.1 (i * 5 + 4)))) 0) (nameL (s.2.2.1 (i * 5 + 2)) (s.2.2.1 (i * 5 + 3)) (s.2.2.1 (i * 5 + 4)))) _ _ (by omega) (by omega) h2 (by omega) (by omega))
                            · exact absurd c199 (by omega)
                          · refine wa_iconst (pc' := 195) dL_chords_194 rfl ?_
                            refine wa_goto (pc' := 199) dL_chords_195 (by decide) ?_
                            refine wa_icmp_eq (tgt := 204) (pc' := 202) dL_chords_199 (by decide) rfl (by omega) (by omega) (fun c199 => ?_) (fun c199 => ?_)
                            · refine wa_iinc (pc' := 207) (ls' := [(2, _), (4, _), (3, _), (1, _), (0, _)]) dL_chords_204 rfl rfl (by decide) rfl ?_
                              refine wa_goto (pc' := 7) dL_chords_207 (by decide) ?_
                              refine wa_sub [0, 3, 4] rfl ?_
                              exact (ih (i + 1) (rL (rC (rL (rC nm 0) (nameL (s.2.2.1 (i * 5 + 2)) (s.2.2.1 (i * 5 + 3)) (s.2.2.1 (i * 5 + 4)))) 0) (nameL (s.2.2.1 (i * 5 + 2)) (s.2.2.1 (i * 5 + 3)) (s.2.2.1 (i * 5 + 4)))) _ _ (by omega) (by omega) h2 (by omega) (by omega))
                            · exact absurd c199 (by omega)
                      · have hi0 : 0 < i := by omega
                        have hso := hso hi0
                        have hlo := hlo hi0
                        have hcm := hcm hi0
                        have hfj := hfj hi0
                        refine wa_aload_n (pc' := 98) dL_chords_97 rfl rfl rfl ?_
                        refine wa_iload_n (pc' := 99) dL_chords_98 rfl rfl rfl ?_
                        refine wa_iconst (pc' := 100) dL_chords_99 rfl ?_
                        refine wa_isub (pc' := 101) dL_chords_100 rfl ?_
                        refine wy_x (pc' := 104) (c0 := (t, rL (rC (rL (rC nm 0) (nameL (s.2.2.1 (i * 5 + 2)) (s.2.2.1 (i * 5 + 3)) (s.2.2.1 (i * 5 + 4)))) 0) (nameL (s.2.2.1 (i * 5 + 2)) (s.2.2.1 (i * 5 + 3)) (s.2.2.1 (i * 5 + 4))), s, D, H, ol, ct, k, y, si, fl, wi)) (c1 := (t, rL (rC (rL (rC nm 0) (nameL (s.2.2.1 (i * 5 + 2)) (s.2.2.1 (i * 5 + 3)) (s.2.2.1 (i * 5 + 4)))) 0) (nameL (s.2.2.1 (i * 5 + 2)) (s.2.2.1 (i * 5 + 3)) (s.2.2.1 (i * 5 + 4))), s, D, H, ol, ct, k, y, si, fl, wi)) (k_X9_lineOf t (rL (rC (rL (rC nm 0) (nameL (s.2.2.1 (i * 5 + 2)) (s.2.2.1 (i * 5 + 3)) (s.2.2.1 (i * 5 + 4)))) 0) (nameL (s.2.2.1 (i * 5 + 2)) (s.2.2.1 (i * 5 + 3)) (s.2.2.1 (i * 5 + 4)))) s D H ol ct k y si fl wi h2 (i - 1) ⟨by omega, by omega⟩) (e_lineOf (by omega) rfl) rfl ok_X9_lineOf lm_L_120 dL_chords_101 rfl rfl rfl rfl rfl (Nat.le_of_ble_eq_true rfl) (Nat.le_of_ble_eq_true rfl) rfl (by omega) (by omega) ?_
                        refine wa_iload_n (pc' := 105) dL_chords_104 rfl rfl rfl ?_
                        refine wa_icmp_gt (tgt := 156) (pc' := 108) dL_chords_105 (by decide) rfl (by omega) (by omega) (fun c105 => ?_) (fun c105 => ?_)
                        · exact absurd c105 (by omega)
                        · refine wa_aload_n (pc' := 109) dL_chords_108 rfl rfl rfl ?_
                          refine wa_iload_n (pc' := 110) dL_chords_109 rfl rfl rfl ?_
                          refine wa_iconst (pc' := 111) dL_chords_110 rfl ?_
                          refine wa_isub (pc' := 112) dL_chords_111 rfl ?_
                          refine wy_x (pc' := 115) (c0 := (t, rL (rC (rL (rC nm 0) (nameL (s.2.2.1 (i * 5 + 2)) (s.2.2.1 (i * 5 + 3)) (s.2.2.1 (i * 5 + 4)))) 0) (nameL (s.2.2.1 (i * 5 + 2)) (s.2.2.1 (i * 5 + 3)) (s.2.2.1 (i * 5 + 4))), s, D, H, ol, ct, k, y, si, fl, wi)) (c1 := (t, rL (rC (rL (rC nm 0) (nameL (s.2.2.1 (i * 5 + 2)) (s.2.2.1 (i * 5 + 3)) (s.2.2.1 (i * 5 + 4)))) 0) (nameL (s.2.2.1 (i * 5 + 2)) (s.2.2.1 (i * 5 + 3)) (s.2.2.1 (i * 5 + 4))), s, D, H, ol, ct, k, y, si, fl, wi)) (k_X9_lineOf t (rL (rC (rL (rC nm 0) (nameL (s.2.2.1 (i * 5 + 2)) (s.2.2.1 (i * 5 + 3)) (s.2.2.1 (i * 5 + 4)))) 0) (nameL (s.2.2.1 (i * 5 + 2)) (s.2.2.1 (i * 5 + 3)) (s.2.2.1 (i * 5 + 4)))) s D H ol ct k y si fl wi h2 (i - 1) ⟨by omega, by omega⟩) (e_lineOf (by omega) rfl) rfl ok_X9_lineOf lm_L_120 dL_chords_112 rfl rfl rfl rfl rfl (Nat.le_of_ble_eq_true rfl) (Nat.le_of_ble_eq_true rfl) rfl (by omega) (by omega) ?_
                          refine wa_iload_n (pc' := 116) dL_chords_115 rfl rfl rfl ?_
                          refine wa_icmp_ne (tgt := 134) (pc' := 119) dL_chords_116 (by decide) rfl (by omega) (by omega) (fun c116 => ?_) (fun c116 => ?_)
                          · refine wa_aload_n (pc' := 135) dL_chords_134 rfl rfl rfl ?_
                            refine wa_iload_n (pc' := 136) dL_chords_135 rfl rfl rfl ?_
                            refine wa_iconst (pc' := 137) dL_chords_136 rfl ?_
                            refine wa_isub (pc' := 138) dL_chords_137 rfl ?_
                            refine wy_x (pc' := 141) (c0 := (t, rL (rC (rL (rC nm 0) (nameL (s.2.2.1 (i * 5 + 2)) (s.2.2.1 (i * 5 + 3)) (s.2.2.1 (i * 5 + 4)))) 0) (nameL (s.2.2.1 (i * 5 + 2)) (s.2.2.1 (i * 5 + 3)) (s.2.2.1 (i * 5 + 4))), s, D, H, ol, ct, k, y, si, fl, wi)) (c1 := (t, rL (rC (rL (rC nm 0) (nameL (s.2.2.1 (i * 5 + 2)) (s.2.2.1 (i * 5 + 3)) (s.2.2.1 (i * 5 + 4)))) 0) (nameL (s.2.2.1 (i * 5 + 2)) (s.2.2.1 (i * 5 + 3)) (s.2.2.1 (i * 5 + 4))), s, D, H, ol, ct, k, y, si, fl, wi)) (k_X9_commonTones t (rL (rC (rL (rC nm 0) (nameL (s.2.2.1 (i * 5 + 2)) (s.2.2.1 (i * 5 + 3)) (s.2.2.1 (i * 5 + 4)))) 0) (nameL (s.2.2.1 (i * 5 + 2)) (s.2.2.1 (i * 5 + 3)) (s.2.2.1 (i * 5 + 4)))) s D H ol ct k y si fl wi h2 (i - 1) ⟨by omega, by omega⟩) (e_common (by omega)) rfl ok_X9_commonTones lm_L_132 dL_chords_138 rfl rfl rfl rfl rfl (Nat.le_of_ble_eq_true rfl) (Nat.le_of_ble_eq_true rfl) rfl (by omega) (by omega) ?_
                            refine wa_if_lt (tgt := 156) (pc' := 144) dL_chords_141 (by decide) rfl (by omega) (fun c141 => ?_) (fun c141 => ?_)
                            · exact absurd c141 (by omega)
                            · refine wa_aload_n (pc' := 145) dL_chords_144 rfl rfl rfl ?_
                              refine wa_iload_n (pc' := 146) dL_chords_145 rfl rfl rfl ?_
                              refine wa_iconst (pc' := 147) dL_chords_146 rfl ?_
                              refine wa_isub (pc' := 148) dL_chords_147 rfl ?_
                              refine wy_x (pc' := 151) (c0 := (t, rL (rC (rL (rC nm 0) (nameL (s.2.2.1 (i * 5 + 2)) (s.2.2.1 (i * 5 + 3)) (s.2.2.1 (i * 5 + 4)))) 0) (nameL (s.2.2.1 (i * 5 + 2)) (s.2.2.1 (i * 5 + 3)) (s.2.2.1 (i * 5 + 4))), s, D, H, ol, ct, k, y, si, fl, wi)) (c1 := (t, rL (rC (rL (rC nm 0) (nameL (s.2.2.1 (i * 5 + 2)) (s.2.2.1 (i * 5 + 3)) (s.2.2.1 (i * 5 + 4)))) 0) (nameL (s.2.2.1 (i * 5 + 2)) (s.2.2.1 (i * 5 + 3)) (s.2.2.1 (i * 5 + 4))), s, D, H, ol, ct, k, y, si, fl, wi)) (k_X9_commonTones t (rL (rC (rL (rC nm 0) (nameL (s.2.2.1 (i * 5 + 2)) (s.2.2.1 (i * 5 + 3)) (s.2.2.1 (i * 5 + 4)))) 0) (nameL (s.2.2.1 (i * 5 + 2)) (s.2.2.1 (i * 5 + 3)) (s.2.2.1 (i * 5 + 4)))) s D H ol ct k y si fl wi h2 (i - 1) ⟨by omega, by omega⟩) (e_common (by omega)) rfl ok_X9_commonTones lm_L_132 dL_chords_148 rfl rfl rfl rfl rfl (Nat.le_of_ble_eq_true rfl) (Nat.le_of_ble_eq_true rfl) rfl (by omega) (by omega) ?_
                              refine wa_bipush (pc' := 153) dL_chords_151 rfl rfl ?_
                              refine wa_icmp_le (tgt := 158) (pc' := 156) dL_chords_153 (by decide) rfl (by omega) (by omega) (fun c153 => ?_) (fun c153 => ?_)
                              · refine wa_aload_n (pc' := 159) dL_chords_158 rfl rfl rfl ?_
                                refine wa_iload_n (pc' := 160) dL_chords_159 rfl rfl rfl ?_
                                refine wy_x (pc' := 163) (c0 := (t, rL (rC (rL (rC nm 0) (nameL (s.2.2.1 (i * 5 + 2)) (s.2.2.1 (i * 5 + 3)) (s.2.2.1 (i * 5 + 4)))) 0) (nameL (s.2.2.1 (i * 5 + 2)) (s.2.2.1 (i * 5 + 3)) (s.2.2.1 (i * 5 + 4))), s, D, H, ol, ct, k, y, si, fl, wi)) (c1 := (t, rL (rC (rL (rC nm 0) (nameL (s.2.2.1 (i * 5 + 2)) (s.2.2.1 (i * 5 + 3)) (s.2.2.1 (i * 5 + 4)))) 0) (nameL (s.2.2.1 (i * 5 + 2)) (s.2.2.1 (i * 5 + 3)) (s.2.2.1 (i * 5 + 4))), s, D, H, ol, ct, k, y, si, fl, wi)) (k_X9_rootOf t (rL (rC (rL (rC nm 0) (nameL (s.2.2.1 (i * 5 + 2)) (s.2.2.1 (i * 5 + 3)) (s.2.2.1 (i * 5 + 4)))) 0) (nameL (s.2.2.1 (i * 5 + 2)) (s.2.2.1 (i * 5 + 3)) (s.2.2.1 (i * 5 + 4)))) s D H ol ct k y si fl wi h2 i ⟨by omega, by omega⟩) (e_rootOf hi rfl) rfl ok_X9_rootOf lm_L_63 dL_chords_160 rfl rfl rfl rfl rfl (Nat.le_of_ble_eq_true rfl) (Nat.le_of_ble_eq_true rfl) rfl (by omega) (by omega) ?_
                                refine wx_n (pc' := 166) (k_L_pitch (s.2.2.1 (i * 5 + 2)) (by omega)) rfl ok_L_pitch lm_L_135 dL_chords_163 rfl rfl rfl (Nat.le_of_ble_eq_true rfl) (Nat.le_of_ble_eq_true rfl) rfl (by omega) (by omega) ?_
                                refine wa_aload_n (pc' := 167) dL_chords_166 rfl rfl rfl ?_
                                refine wy_x (pc' := 170) (c0 := (t, rL (rC (rL (rC nm 0) (nameL (s.2.2.1 (i * 5 + 2)) (s.2.2.1 (i * 5 + 3)) (s.2.2.1 (i * 5 + 4)))) 0) (nameL (s.2.2.1 (i * 5 + 2)) (s.2.2.1 (i * 5 + 3)) (s.2.2.1 (i * 5 + 4))), s, D, H, ol, ct, k, y, si, fl, wi)) (c1 := (t, rL (rC (rL (rC nm 0) (nameL (s.2.2.1 (i * 5 + 2)) (s.2.2.1 (i * 5 + 3)) (s.2.2.1 (i * 5 + 4)))) 0) (nameL (s.2.2.1 (i * 5 + 2)) (s.2.2.1 (i * 5 + 3)) (s.2.2.1 (i * 5 + 4))), s, D, H, ol, ct, k, y, si, fl, wi)) (k_X9_tonic t (rL (rC (rL (rC nm 0) (nameL (s.2.2.1 (i * 5 + 2)) (s.2.2.1 (i * 5 + 3)) (s.2.2.1 (i * 5 + 4)))) 0) (nameL (s.2.2.1 (i * 5 + 2)) (s.2.2.1 (i * 5 + 3)) (s.2.2.1 (i * 5 + 4)))) s D H ol ct k y si fl wi h2) (rfl) rfl ok_X9_tonic lm_L_138 dL_chords_167 rfl rfl rfl rfl rfl (Nat.le_of_ble_eq_true rfl) (Nat.le_of_ble_eq_true rfl) rfl (by omega) (by omega) ?_
                                refine wx_n (pc' := 173) (k_L_pitch (tonO s.2.2.2.2.2.1 s.2.2.2.2.2.2) (by omega)) rfl ok_L_pitch lm_L_135 dL_chords_170 rfl rfl rfl (Nat.le_of_ble_eq_true rfl) (Nat.le_of_ble_eq_true rfl) rfl (by omega) (by omega) ?_
                                refine wa_icmp_ne (tgt := 180) (pc' := 176) dL_chords_173 (by decide) rfl (by omega) (by omega) (fun c173 => ?_) (fun c173 => ?_)
                                · refine wa_iconst (pc' := 181) dL_chords_180 rfl ?_
                                  refine wa_istore (pc' := 183) (ls' := [(4, _), (3, _), (2, _), (1, _), (0, _)]) dL_chords_181 rfl (by decide) rfl ?_
                                  refine wa_iload (pc' := 185) dL_chords_183 rfl rfl ?_
                                  refine wa_aload_n (pc' := 186) dL_chords_185 rfl rfl rfl ?_
                                  refine wa_iload_n (pc' := 187) dL_chords_186 rfl rfl rfl ?_
                                  refine wy_x (pc' := 190) (c0 := (t, rL (rC (rL (rC nm 0) (nameL (s.2.2.1 (i * 5 + 2)) (s.2.2.1 (i * 5 + 3)) (s.2.2.1 (i * 5 + 4)))) 0) (nameL (s.2.2.1 (i * 5 + 2)) (s.2.2.1 (i * 5 + 3)) (s.2.2.1 (i * 5 + 4))), s, D, H, ol, ct, k, y, si, fl, wi)) (c1 := (t, rL (rC (rL (rC nm 0) (nameL (s.2.2.1 (i * 5 + 2)) (s.2.2.1 (i * 5 + 3)) (s.2.2.1 (i * 5 + 4)))) 0) (nameL (s.2.2.1 (i * 5 + 2)) (s.2.2.1 (i * 5 + 3)) (s.2.2.1 (i * 5 + 4))), s, D, H, ol, ct, k, y, si, fl, wi)) (k_X9_degree t (rL (rC (rL (rC nm 0) (nameL (s.2.2.1 (i * 5 + 2)) (s.2.2.1 (i * 5 + 3)) (s.2.2.1 (i * 5 + 4)))) 0) (nameL (s.2.2.1 (i * 5 + 2)) (s.2.2.1 (i * 5 + 3)) (s.2.2.1 (i * 5 + 4)))) s D H ol ct k y si fl wi h2 i ⟨by omega, by omega⟩) (e_degree hi) rfl ok_X9_degree lm_L_129 dL_chords_187 rfl rfl rfl rfl rfl (Nat.le_of_ble_eq_true rfl) (Nat.le_of_ble_eq_true rfl) rfl (by omega) (by omega) ?_
                                  refine wa_iconst (pc' := 191) dL_chords_190 rfl ?_
                                  refine wa_icmp_ne (tgt := 198) (pc' := 194) dL_chords_191 (by decide) rfl (by omega) (by omega) (fun c191 => ?_) (fun c191 => ?_)
                                  · refine wa_iconst (pc' := 199) dL_chords_198 rfl ?_
                                    refine wa_icmp_eq (tgt := 204) (pc' := 202) dL_chords_199 (by decide) rfl (by omega) (by omega) (fun c199 => ?_) (fun c199 => ?_)
                                    · refine wa_iinc (pc' := 207) (ls' := [(2, _), (4, _), (3, _), (1, _), (0, _)]) dL_chords_204 rfl rfl (by decide) rfl ?_
                                      refine wa_goto (pc' := 7) dL_chords_207 (by decide) ?_
                                      refine wa_sub [0, 3, 4] rfl ?_
                                      exact (ih (i + 1) (rL (rC (rL (rC nm 0) (nameL (s.2.2.1 (i * 5 + 2)) (s.2.2.1 (i * 5 + 3)) (s.2.2.1 (i * 5 + 4)))) 0) (nameL (s.2.2.1 (i * 5 + 2)) (s.2.2.1 (i * 5 + 3)) (s.2.2.1 (i * 5 + 4)))) _ _ (by omega) (by omega) h2 (by omega) (by omega))
                                    · exact absurd c199 (by omega)
                                  · refine wa_iconst (pc' := 195) dL_chords_194 rfl ?_
                                    refine wa_goto (pc' := 199) dL_chords_195 (by decide) ?_
                                    refine wa_icmp_eq (tgt := 204) (pc' := 202) dL_chords_199 (by decide) rfl (by omega) (by omega) (fun c199 => ?_) (fun c199 => ?_)
                                    · refine wa_iinc (pc' := 207) (ls' := [(2, _), (4, _), (3, _), (1, _), (0, _)]) dL_chords_204 rfl rfl (by decide) rfl ?_
                                      refine wa_goto (pc' := 7) dL_chords_207 (by decide) ?_
                                      refine wa_sub [0, 3, 4] rfl ?_
                                      exact (ih (i + 1) (rL (rC (rL (rC nm 0) (nameL (s.2.2.1 (i * 5 + 2)) (s.2.2.1 (i * 5 + 3)) (s.2.2.1 (i * 5 + 4)))) 0) (nameL (s.2.2.1 (i * 5 + 2)) (s.2.2.1 (i * 5 + 3)) (s.2.2.1 (i * 5 + 4)))) _ _ (by omega) (by omega) h2 (by omega) (by omega))
                                    · exact absurd c199 (by omega)
                                · refine wa_iconst (pc' := 177) dL_chords_176 rfl ?_
                                  refine wa_goto (pc' := 181) dL_chords_177 (by decide) ?_
                                  refine wa_istore (pc' := 183) (ls' := [(4, _), (3, _), (2, _), (1, _), (0, _)]) dL_chords_181 rfl (by decide) rfl ?_
                                  refine wa_iload (pc' := 185) dL_chords_183 rfl rfl ?_
                                  refine wa_aload_n (pc' := 186) dL_chords_185 rfl rfl rfl ?_
                                  refine wa_iload_n (pc' := 187) dL_chords_186 rfl rfl rfl ?_
                                  refine wy_x (pc' := 190) (c0 := (t, rL (rC (rL (rC nm 0) (nameL (s.2.2.1 (i * 5 + 2)) (s.2.2.1 (i * 5 + 3)) (s.2.2.1 (i * 5 + 4)))) 0) (nameL (s.2.2.1 (i * 5 + 2)) (s.2.2.1 (i * 5 + 3)) (s.2.2.1 (i * 5 + 4))), s, D, H, ol, ct, k, y, si, fl, wi)) (c1 := (t, rL (rC (rL (rC nm 0) (nameL (s.2.2.1 (i * 5 + 2)) (s.2.2.1 (i * 5 + 3)) (s.2.2.1 (i * 5 + 4)))) 0) (nameL (s.2.2.1 (i * 5 + 2)) (s.2.2.1 (i * 5 + 3)) (s.2.2.1 (i * 5 + 4))), s, D, H, ol, ct, k, y, si, fl, wi)) (k_X9_degree t (rL (rC (rL (rC nm 0) (nameL (s.2.2.1 (i * 5 + 2)) (s.2.2.1 (i * 5 + 3)) (s.2.2.1 (i * 5 + 4)))) 0) (nameL (s.2.2.1 (i * 5 + 2)) (s.2.2.1 (i * 5 + 3)) (s.2.2.1 (i * 5 + 4)))) s D H ol ct k y si fl wi h2 i ⟨by omega, by omega⟩) (e_degree hi) rfl ok_X9_degree lm_L_129 dL_chords_187 rfl rfl rfl rfl rfl (Nat.le_of_ble_eq_true rfl) (Nat.le_of_ble_eq_true rfl) rfl (by omega) (by omega) ?_
                                  refine wa_iconst (pc' := 191) dL_chords_190 rfl ?_
                                  refine wa_icmp_ne (tgt := 198) (pc' := 194) dL_chords_191 (by decide) rfl (by omega) (by omega) (fun c191 => ?_) (fun c191 => ?_)
                                  · refine wa_iconst (pc' := 199) dL_chords_198 rfl ?_
                                    refine wa_icmp_eq (tgt := 204) (pc' := 202) dL_chords_199 (by decide) rfl (by omega) (by omega) (fun c199 => ?_) (fun c199 => ?_)
                                    · refine wa_iinc (pc' := 207) (ls' := [(2, _), (4, _), (3, _), (1, _), (0, _)]) dL_chords_204 rfl rfl (by decide) rfl ?_
                                      refine wa_goto (pc' := 7) dL_chords_207 (by decide) ?_
                                      refine wa_sub [0, 3, 4] rfl ?_
                                      exact (ih (i + 1) (rL (rC (rL (rC nm 0) (nameL (s.2.2.1 (i * 5 + 2)) (s.2.2.1 (i * 5 + 3)) (s.2.2.1 (i * 5 + 4)))) 0) (nameL (s.2.2.1 (i * 5 + 2)) (s.2.2.1 (i * 5 + 3)) (s.2.2.1 (i * 5 + 4)))) _ _ (by omega) (by omega) h2 (by omega) (by omega))
                                    · exact absurd c199 (by omega)
                                  · refine wa_iconst (pc' := 195) dL_chords_194 rfl ?_
                                    refine wa_goto (pc' := 199) dL_chords_195 (by decide) ?_
                                    refine wa_icmp_eq (tgt := 204) (pc' := 202) dL_chords_199 (by decide) rfl (by omega) (by omega) (fun c199 => ?_) (fun c199 => ?_)
                                    · refine wa_iinc (pc' := 207) (ls' := [(2, _), (4, _), (3, _), (1, _), (0, _)]) dL_chords_204 rfl rfl (by decide) rfl ?_
                                      refine wa_goto (pc' := 7) dL_chords_207 (by decide) ?_
                                      refine wa_sub [0, 3, 4] rfl ?_
                                      exact (ih (i + 1) (rL (rC (rL (rC nm 0) (nameL (s.2.2.1 (i * 5 + 2)) (s.2.2.1 (i * 5 + 3)) (s.2.2.1 (i * 5 + 4)))) 0) (nameL (s.2.2.1 (i * 5 + 2)) (s.2.2.1 (i * 5 + 3)) (s.2.2.1 (i * 5 + 4)))) _ _ (by omega) (by omega) h2 (by omega) (by omega))
                                    · exact absurd c199 (by omega)
                              · exact absurd c153 (by omega)
                          · refine wa_aload_n (pc' := 120) dL_chords_119 rfl rfl rfl ?_
                            refine wa_iload_n (pc' := 121) dL_chords_120 rfl rfl rfl ?_
                            refine wa_iconst (pc' := 122) dL_chords_121 rfl ?_
                            refine wa_isub (pc' := 123) dL_chords_122 rfl ?_
                            refine wy_x (pc' := 126) (c0 := (t, rL (rC (rL (rC nm 0) (nameL (s.2.2.1 (i * 5 + 2)) (s.2.2.1 (i * 5 + 3)) (s.2.2.1 (i * 5 + 4)))) 0) (nameL (s.2.2.1 (i * 5 + 2)) (s.2.2.1 (i * 5 + 3)) (s.2.2.1 (i * 5 + 4))), s, D, H, ol, ct, k, y, si, fl, wi)) (c1 := (t, rL (rC (rL (rC nm 0) (nameL (s.2.2.1 (i * 5 + 2)) (s.2.2.1 (i * 5 + 3)) (s.2.2.1 (i * 5 + 4)))) 0) (nameL (s.2.2.1 (i * 5 + 2)) (s.2.2.1 (i * 5 + 3)) (s.2.2.1 (i * 5 + 4))), s, D, H, ol, ct, k, y, si, fl, wi)) (k_X9_columnOf t (rL (rC (rL (rC nm 0) (nameL (s.2.2.1 (i * 5 + 2)) (s.2.2.1 (i * 5 + 3)) (s.2.2.1 (i * 5 + 4)))) 0) (nameL (s.2.2.1 (i * 5 + 2)) (s.2.2.1 (i * 5 + 3)) (s.2.2.1 (i * 5 + 4)))) s D H ol ct k y si fl wi h2 (i - 1) ⟨by omega, by omega⟩) (e_columnOf (by omega) rfl) rfl ok_X9_columnOf lm_L_123 dL_chords_123 rfl rfl rfl rfl rfl (Nat.le_of_ble_eq_true rfl) (Nat.le_of_ble_eq_true rfl) rfl (by omega) (by omega) ?_
                            refine wa_aload_n (pc' := 127) dL_chords_126 rfl rfl rfl ?_
                            refine wa_iload_n (pc' := 128) dL_chords_127 rfl rfl rfl ?_
                            refine wy_x (pc' := 131) (c0 := (t, rL (rC (rL (rC nm 0) (nameL (s.2.2.1 (i * 5 + 2)) (s.2.2.1 (i * 5 + 3)) (s.2.2.1 (i * 5 + 4)))) 0) (nameL (s.2.2.1 (i * 5 + 2)) (s.2.2.1 (i * 5 + 3)) (s.2.2.1 (i * 5 + 4))), s, D, H, ol, ct, k, y, si, fl, wi)) (c1 := (t, rL (rC (rL (rC nm 0) (nameL (s.2.2.1 (i * 5 + 2)) (s.2.2.1 (i * 5 + 3)) (s.2.2.1 (i * 5 + 4)))) 0) (nameL (s.2.2.1 (i * 5 + 2)) (s.2.2.1 (i * 5 + 3)) (s.2.2.1 (i * 5 + 4))), s, D, H, ol, ct, k, y, si, fl, wi)) (k_X9_columnOf t (rL (rC (rL (rC nm 0) (nameL (s.2.2.1 (i * 5 + 2)) (s.2.2.1 (i * 5 + 3)) (s.2.2.1 (i * 5 + 4)))) 0) (nameL (s.2.2.1 (i * 5 + 2)) (s.2.2.1 (i * 5 + 3)) (s.2.2.1 (i * 5 + 4)))) s D H ol ct k y si fl wi h2 i ⟨by omega, by omega⟩) (e_columnOf hi rfl) rfl ok_X9_columnOf lm_L_123 dL_chords_128 rfl rfl rfl rfl rfl (Nat.le_of_ble_eq_true rfl) (Nat.le_of_ble_eq_true rfl) rfl (by omega) (by omega) ?_
                            refine wa_icmp_gt (tgt := 156) (pc' := 134) dL_chords_131 (by decide) rfl (by omega) (by omega) (fun c131 => ?_) (fun c131 => ?_)
                            · exact absurd c131 (by omega)
                            · refine wa_aload_n (pc' := 135) dL_chords_134 rfl rfl rfl ?_
                              refine wa_iload_n (pc' := 136) dL_chords_135 rfl rfl rfl ?_
                              refine wa_iconst (pc' := 137) dL_chords_136 rfl ?_
                              refine wa_isub (pc' := 138) dL_chords_137 rfl ?_
                              refine wy_x (pc' := 141) (c0 := (t, rL (rC (rL (rC nm 0) (nameL (s.2.2.1 (i * 5 + 2)) (s.2.2.1 (i * 5 + 3)) (s.2.2.1 (i * 5 + 4)))) 0) (nameL (s.2.2.1 (i * 5 + 2)) (s.2.2.1 (i * 5 + 3)) (s.2.2.1 (i * 5 + 4))), s, D, H, ol, ct, k, y, si, fl, wi)) (c1 := (t, rL (rC (rL (rC nm 0) (nameL (s.2.2.1 (i * 5 + 2)) (s.2.2.1 (i * 5 + 3)) (s.2.2.1 (i * 5 + 4)))) 0) (nameL (s.2.2.1 (i * 5 + 2)) (s.2.2.1 (i * 5 + 3)) (s.2.2.1 (i * 5 + 4))), s, D, H, ol, ct, k, y, si, fl, wi)) (k_X9_commonTones t (rL (rC (rL (rC nm 0) (nameL (s.2.2.1 (i * 5 + 2)) (s.2.2.1 (i * 5 + 3)) (s.2.2.1 (i * 5 + 4)))) 0) (nameL (s.2.2.1 (i * 5 + 2)) (s.2.2.1 (i * 5 + 3)) (s.2.2.1 (i * 5 + 4)))) s D H ol ct k y si fl wi h2 (i - 1) ⟨by omega, by omega⟩) (e_common (by omega)) rfl ok_X9_commonTones lm_L_132 dL_chords_138 rfl rfl rfl rfl rfl (Nat.le_of_ble_eq_true rfl) (Nat.le_of_ble_eq_true rfl) rfl (by omega) (by omega) ?_
                              refine wa_if_lt (tgt := 156) (pc' := 144) dL_chords_141 (by decide) rfl (by omega) (fun c141 => ?_) (fun c141 => ?_)
                              · exact absurd c141 (by omega)
                              · refine wa_aload_n (pc' := 145) dL_chords_144 rfl rfl rfl ?_
                                refine wa_iload_n (pc' := 146) dL_chords_145 rfl rfl rfl ?_
                                refine wa_iconst (pc' := 147) dL_chords_146 rfl ?_
                                refine wa_isub (pc' := 148) dL_chords_147 rfl ?_
                                refine wy_x (pc' := 151) (c0 := (t, rL (rC (rL (rC nm 0) (nameL (s.2.2.1 (i * 5 + 2)) (s.2.2.1 (i * 5 + 3)) (s.2.2.1 (i * 5 + 4)))) 0) (nameL (s.2.2.1 (i * 5 + 2)) (s.2.2.1 (i * 5 + 3)) (s.2.2.1 (i * 5 + 4))), s, D, H, ol, ct, k, y, si, fl, wi)) (c1 := (t, rL (rC (rL (rC nm 0) (nameL (s.2.2.1 (i * 5 + 2)) (s.2.2.1 (i * 5 + 3)) (s.2.2.1 (i * 5 + 4)))) 0) (nameL (s.2.2.1 (i * 5 + 2)) (s.2.2.1 (i * 5 + 3)) (s.2.2.1 (i * 5 + 4))), s, D, H, ol, ct, k, y, si, fl, wi)) (k_X9_commonTones t (rL (rC (rL (rC nm 0) (nameL (s.2.2.1 (i * 5 + 2)) (s.2.2.1 (i * 5 + 3)) (s.2.2.1 (i * 5 + 4)))) 0) (nameL (s.2.2.1 (i * 5 + 2)) (s.2.2.1 (i * 5 + 3)) (s.2.2.1 (i * 5 + 4)))) s D H ol ct k y si fl wi h2 (i - 1) ⟨by omega, by omega⟩) (e_common (by omega)) rfl ok_X9_commonTones lm_L_132 dL_chords_148 rfl rfl rfl rfl rfl (Nat.le_of_ble_eq_true rfl) (Nat.le_of_ble_eq_true rfl) rfl (by omega) (by omega) ?_
                                refine wa_bipush (pc' := 153) dL_chords_151 rfl rfl ?_
                                refine wa_icmp_le (tgt := 158) (pc' := 156) dL_chords_153 (by decide) rfl (by omega) (by omega) (fun c153 => ?_) (fun c153 => ?_)
                                · refine wa_aload_n (pc' := 159) dL_chords_158 rfl rfl rfl ?_
                                  refine wa_iload_n (pc' := 160) dL_chords_159 rfl rfl rfl ?_
                                  refine wy_x (pc' := 163) (c0 := (t, rL (rC (rL (rC nm 0) (nameL (s.2.2.1 (i * 5 + 2)) (s.2.2.1 (i * 5 + 3)) (s.2.2.1 (i * 5 + 4)))) 0) (nameL (s.2.2.1 (i * 5 + 2)) (s.2.2.1 (i * 5 + 3)) (s.2.2.1 (i * 5 + 4))), s, D, H, ol, ct, k, y, si, fl, wi)) (c1 := (t, rL (rC (rL (rC nm 0) (nameL (s.2.2.1 (i * 5 + 2)) (s.2.2.1 (i * 5 + 3)) (s.2.2.1 (i * 5 + 4)))) 0) (nameL (s.2.2.1 (i * 5 + 2)) (s.2.2.1 (i * 5 + 3)) (s.2.2.1 (i * 5 + 4))), s, D, H, ol, ct, k, y, si, fl, wi)) (k_X9_rootOf t (rL (rC (rL (rC nm 0) (nameL (s.2.2.1 (i * 5 + 2)) (s.2.2.1 (i * 5 + 3)) (s.2.2.1 (i * 5 + 4)))) 0) (nameL (s.2.2.1 (i * 5 + 2)) (s.2.2.1 (i * 5 + 3)) (s.2.2.1 (i * 5 + 4)))) s D H ol ct k y si fl wi h2 i ⟨by omega, by omega⟩) (e_rootOf hi rfl) rfl ok_X9_rootOf lm_L_63 dL_chords_160 rfl rfl rfl rfl rfl (Nat.le_of_ble_eq_true rfl) (Nat.le_of_ble_eq_true rfl) rfl (by omega) (by omega) ?_
                                  refine wx_n (pc' := 166) (k_L_pitch (s.2.2.1 (i * 5 + 2)) (by omega)) rfl ok_L_pitch lm_L_135 dL_chords_163 rfl rfl rfl (Nat.le_of_ble_eq_true rfl) (Nat.le_of_ble_eq_true rfl) rfl (by omega) (by omega) ?_
                                  refine wa_aload_n (pc' := 167) dL_chords_166 rfl rfl rfl ?_
                                  refine wy_x (pc' := 170) (c0 := (t, rL (rC (rL (rC nm 0) (nameL (s.2.2.1 (i * 5 + 2)) (s.2.2.1 (i * 5 + 3)) (s.2.2.1 (i * 5 + 4)))) 0) (nameL (s.2.2.1 (i * 5 + 2)) (s.2.2.1 (i * 5 + 3)) (s.2.2.1 (i * 5 + 4))), s, D, H, ol, ct, k, y, si, fl, wi)) (c1 := (t, rL (rC (rL (rC nm 0) (nameL (s.2.2.1 (i * 5 + 2)) (s.2.2.1 (i * 5 + 3)) (s.2.2.1 (i * 5 + 4)))) 0) (nameL (s.2.2.1 (i * 5 + 2)) (s.2.2.1 (i * 5 + 3)) (s.2.2.1 (i * 5 + 4))), s, D, H, ol, ct, k, y, si, fl, wi)) (k_X9_tonic t (rL (rC (rL (rC nm 0) (nameL (s.2.2.1 (i * 5 + 2)) (s.2.2.1 (i * 5 + 3)) (s.2.2.1 (i * 5 + 4)))) 0) (nameL (s.2.2.1 (i * 5 + 2)) (s.2.2.1 (i * 5 + 3)) (s.2.2.1 (i * 5 + 4)))) s D H ol ct k y si fl wi h2) (rfl) rfl ok_X9_tonic lm_L_138 dL_chords_167 rfl rfl rfl rfl rfl (Nat.le_of_ble_eq_true rfl) (Nat.le_of_ble_eq_true rfl) rfl (by omega) (by omega) ?_
                                  refine wx_n (pc' := 173) (k_L_pitch (tonO s.2.2.2.2.2.1 s.2.2.2.2.2.2) (by omega)) rfl ok_L_pitch lm_L_135 dL_chords_170 rfl rfl rfl (Nat.le_of_ble_eq_true rfl) (Nat.le_of_ble_eq_true rfl) rfl (by omega) (by omega) ?_
                                  refine wa_icmp_ne (tgt := 180) (pc' := 176) dL_chords_173 (by decide) rfl (by omega) (by omega) (fun c173 => ?_) (fun c173 => ?_)
                                  · refine wa_iconst (pc' := 181) dL_chords_180 rfl ?_
                                    refine wa_istore (pc' := 183) (ls' := [(4, _), (3, _), (2, _), (1, _), (0, _)]) dL_chords_181 rfl (by decide) rfl ?_
                                    refine wa_iload (pc' := 185) dL_chords_183 rfl rfl ?_
                                    refine wa_aload_n (pc' := 186) dL_chords_185 rfl rfl rfl ?_
                                    refine wa_iload_n (pc' := 187) dL_chords_186 rfl rfl rfl ?_
                                    refine wy_x (pc' := 190) (c0 := (t, rL (rC (rL (rC nm 0) (nameL (s.2.2.1 (i * 5 + 2)) (s.2.2.1 (i * 5 + 3)) (s.2.2.1 (i * 5 + 4)))) 0) (nameL (s.2.2.1 (i * 5 + 2)) (s.2.2.1 (i * 5 + 3)) (s.2.2.1 (i * 5 + 4))), s, D, H, ol, ct, k, y, si, fl, wi)) (c1 := (t, rL (rC (rL (rC nm 0) (nameL (s.2.2.1 (i * 5 + 2)) (s.2.2.1 (i * 5 + 3)) (s.2.2.1 (i * 5 + 4)))) 0) (nameL (s.2.2.1 (i * 5 + 2)) (s.2.2.1 (i * 5 + 3)) (s.2.2.1 (i * 5 + 4))), s, D, H, ol, ct, k, y, si, fl, wi)) (k_X9_degree t (rL (rC (rL (rC nm 0) (nameL (s.2.2.1 (i * 5 + 2)) (s.2.2.1 (i * 5 + 3)) (s.2.2.1 (i * 5 + 4)))) 0) (nameL (s.2.2.1 (i * 5 + 2)) (s.2.2.1 (i * 5 + 3)) (s.2.2.1 (i * 5 + 4)))) s D H ol ct k y si fl wi h2 i ⟨by omega, by omega⟩) (e_degree hi) rfl ok_X9_degree lm_L_129 dL_chords_187 rfl rfl rfl rfl rfl (Nat.le_of_ble_eq_true rfl) (Nat.le_of_ble_eq_true rfl) rfl (by omega) (by omega) ?_
                                    refine wa_iconst (pc' := 191) dL_chords_190 rfl ?_
                                    refine wa_icmp_ne (tgt := 198) (pc' := 194) dL_chords_191 (by decide) rfl (by omega) (by omega) (fun c191 => ?_) (fun c191 => ?_)
                                    · refine wa_iconst (pc' := 199) dL_chords_198 rfl ?_
                                      refine wa_icmp_eq (tgt := 204) (pc' := 202) dL_chords_199 (by decide) rfl (by omega) (by omega) (fun c199 => ?_) (fun c199 => ?_)
                                      · refine wa_iinc (pc' := 207) (ls' := [(2, _), (4, _), (3, _), (1, _), (0, _)]) dL_chords_204 rfl rfl (by decide) rfl ?_
                                        refine wa_goto (pc' := 7) dL_chords_207 (by decide) ?_
                                        refine wa_sub [0, 3, 4] rfl ?_
                                        exact (ih (i + 1) (rL (rC (rL (rC nm 0) (nameL (s.2.2.1 (i * 5 + 2)) (s.2.2.1 (i * 5 + 3)) (s.2.2.1 (i * 5 + 4)))) 0) (nameL (s.2.2.1 (i * 5 + 2)) (s.2.2.1 (i * 5 + 3)) (s.2.2.1 (i * 5 + 4)))) _ _ (by omega) (by omega) h2 (by omega) (by omega))
                                      · exact absurd c199 (by omega)
                                    · refine wa_iconst (pc' := 195) dL_chords_194 rfl ?_
                                      refine wa_goto (pc' := 199) dL_chords_195 (by decide) ?_
                                      refine wa_icmp_eq (tgt := 204) (pc' := 202) dL_chords_199 (by decide) rfl (by omega) (by omega) (fun c199 => ?_) (fun c199 => ?_)
                                      · refine wa_iinc (pc' := 207) (ls' := [(2, _), (4, _), (3, _), (1, _), (0, _)]) dL_chords_204 rfl rfl (by decide) rfl ?_
                                        refine wa_goto (pc' := 7) dL_chords_207 (by decide) ?_
                                        refine wa_sub [0, 3, 4] rfl ?_
                                        exact (ih (i + 1) (rL (rC (rL (rC nm 0) (nameL (s.2.2.1 (i * 5 + 2)) (s.2.2.1 (i * 5 + 3)) (s.2.2.1 (i * 5 + 4)))) 0) (nameL (s.2.2.1 (i * 5 + 2)) (s.2.2.1 (i * 5 + 3)) (s.2.2.1 (i * 5 + 4)))) _ _ (by omega) (by omega) h2 (by omega) (by omega))
                                      · exact absurd c199 (by omega)
                                  · refine wa_iconst (pc' := 177) dL_chords_176 rfl ?_
                                    refine wa_goto (pc' := 181) dL_chords_177 (by decide) ?_
                                    refine wa_istore (pc' := 183) (ls' := [(4, _), (3, _), (2, _), (1, _), (0, _)]) dL_chords_181 rfl (by decide) rfl ?_
                                    refine wa_iload (pc' := 185) dL_chords_183 rfl rfl ?_
                                    refine wa_aload_n (pc' := 186) dL_chords_185 rfl rfl rfl ?_
                                    refine wa_iload_n (pc' := 187) dL_chords_186 rfl rfl rfl ?_
                                    refine wy_x (pc' := 190) (c0 := (t, rL (rC (rL (rC nm 0) (nameL (s.2.2.1 (i * 5 + 2)) (s.2.2.1 (i * 5 + 3)) (s.2.2.1 (i * 5 + 4)))) 0) (nameL (s.2.2.1 (i * 5 + 2)) (s.2.2.1 (i * 5 + 3)) (s.2.2.1 (i * 5 + 4))), s, D, H, ol, ct, k, y, si, fl, wi)) (c1 := (t, rL (rC (rL (rC nm 0) (nameL (s.2.2.1 (i * 5 + 2)) (s.2.2.1 (i * 5 + 3)) (s.2.2.1 (i * 5 + 4)))) 0) (nameL (s.2.2.1 (i * 5 + 2)) (s.2.2.1 (i * 5 + 3)) (s.2.2.1 (i * 5 + 4))), s, D, H, ol, ct, k, y, si, fl, wi)) (k_X9_degree t (rL (rC (rL (rC nm 0) (nameL (s.2.2.1 (i * 5 + 2)) (s.2.2.1 (i * 5 + 3)) (s.2.2.1 (i * 5 + 4)))) 0) (nameL (s.2.2.1 (i * 5 + 2)) (s.2.2.1 (i * 5 + 3)) (s.2.2.1 (i * 5 + 4)))) s D H ol ct k y si fl wi h2 i ⟨by omega, by omega⟩) (e_degree hi) rfl ok_X9_degree lm_L_129 dL_chords_187 rfl rfl rfl rfl rfl (Nat.le_of_ble_eq_true rfl) (Nat.le_of_ble_eq_true rfl) rfl (by omega) (by omega) ?_
                                    refine wa_iconst (pc' := 191) dL_chords_190 rfl ?_
                                    refine wa_icmp_ne (tgt := 198) (pc' := 194) dL_chords_191 (by decide) rfl (by omega) (by omega) (fun c191 => ?_) (fun c191 => ?_)
                                    · refine wa_iconst (pc' := 199) dL_chords_198 rfl ?_
                                      refine wa_icmp_eq (tgt := 204) (pc' := 202) dL_chords_199 (by decide) rfl (by omega) (by omega) (fun c199 => ?_) (fun c199 => ?_)
                                      · refine wa_iinc (pc' := 207) (ls' := [(2, _), (4, _), (3, _), (1, _), (0, _)]) dL_chords_204 rfl rfl (by decide) rfl ?_
                                        refine wa_goto (pc' := 7) dL_chords_207 (by decide) ?_
                                        refine wa_sub [0, 3, 4] rfl ?_
                                        exact (ih (i + 1) (rL (rC (rL (rC nm 0) (nameL (s.2.2.1 (i * 5 + 2)) (s.2.2.1 (i * 5 + 3)) (s.2.2.1 (i * 5 + 4)))) 0) (nameL (s.2.2.1 (i * 5 + 2)) (s.2.2.1 (i * 5 + 3)) (s.2.2.1 (i * 5 + 4)))) _ _ (by omega) (by omega) h2 (by omega) (by omega))
                                      · exact absurd c199 (by omega)
                                    · refine wa_iconst (pc' := 195) dL_chords_194 rfl ?_
                                      refine wa_goto (pc' := 199) dL_chords_195 (by decide) ?_
                                      refine wa_icmp_eq (tgt := 204) (pc' := 202) dL_chords_199 (by decide) rfl (by omega) (by omega) (fun c199 => ?_) (fun c199 => ?_)
                                      · refine wa_iinc (pc' := 207) (ls' := [(2, _), (4, _), (3, _), (1, _), (0, _)]) dL_chords_204 rfl rfl (by decide) rfl ?_
                                        refine wa_goto (pc' := 7) dL_chords_207 (by decide) ?_
                                        refine wa_sub [0, 3, 4] rfl ?_
                                        exact (ih (i + 1) (rL (rC (rL (rC nm 0) (nameL (s.2.2.1 (i * 5 + 2)) (s.2.2.1 (i * 5 + 3)) (s.2.2.1 (i * 5 + 4)))) 0) (nameL (s.2.2.1 (i * 5 + 2)) (s.2.2.1 (i * 5 + 3)) (s.2.2.1 (i * 5 + 4)))) _ _ (by omega) (by omega) h2 (by omega) (by omega))
                                      · exact absurd c199 (by omega)
                                · exact absurd c153 (by omega)
                    · exact absurd c88 (by omega)
set_option maxRecDepth 10000 in
set_option maxHeartbeats 2000000 in
theorem k_L_chords (t nm : zRw) (s D : zSh) (H : Nat → zSh) (ol ct : Int) (k : zKd) (y : zLy) (si fl wi : Int) (h : okC (t, nm, s, D, H, ol, ct, k, y, si, fl, wi)) (hw : okW s) : zMet q_L_chords 10 1000 6000 [zR 0] (wCS (t, nm, s, D, H, ol, ct, k, y, si, fl, wi)) (zLP fun v c => v = zI 1 ∧ ∃ nm1 : zRw, (0 ≤ nm1.1 ∧ nm1.1 ≤ 680) ∧ c = (t, nm1, s, D, H, ol, ct, k, y, si, fl, wi)) := by
  refine z_introF (ls := [(0, _)]) (by decide +kernel) rfl (fun _ _ => rfl) (fun _ _ => Nat.le_of_ble_eq_true rfl) ?_
  have z4 := h.2.2.1.1.2.2.2.1
  refine wa_aload_n (pc' := 1) dL_chords_0 rfl rfl rfl ?_
  refine wy_x (pc' := 4) (c0 := (t, nm, s, D, H, ol, ct, k, y, si, fl, wi)) (c1 := (t, nm, s, D, H, ol, ct, k, y, si, fl, wi)) (k_X9_chords t nm s D H ol ct k y si fl wi h) (rfl) rfl ok_X9_chords lm_L_90 dL_chords_1 rfl rfl rfl rfl rfl (Nat.le_of_ble_eq_true rfl) (Nat.le_of_ble_eq_true rfl) rfl (by omega) (by omega) ?_
  refine wa_istore_n (pc' := 5) (ls' := [(1, _), (0, _)]) dL_chords_4 rfl rfl (by decide) rfl ?_
  refine wa_iconst (pc' := 6) dL_chords_5 rfl ?_
  refine wa_istore_n (pc' := 7) (ls' := [(2, _), (1, _), (0, _)]) dL_chords_6 rfl rfl (by decide) rfl ?_
  refine wa_sub [0, 1, 2] rfl ?_
  exact l_chords7 t s D H ol ct k y si fl wi hw (s.2.2.2.2.1).toNat 0 nm _ _ (by decide) (by omega) h (by omega) (by omega)

