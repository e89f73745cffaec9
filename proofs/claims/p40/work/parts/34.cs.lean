/-! the checks -/
set_option maxRecDepth 10000 in
set_option maxHeartbeats 1000000 in
theorem k_X9_requireLine (t nm : zRw) (s D : zSh) (H : Nat → zSh) (ol ct : Int) (k : zKd) (y : zLy) (si fl wi : Int) (h : okC (t, nm, s, D, H, ol, ct, k, y, si, fl, wi)) (l : Int) (hl : zin l) : zMet q_X9_requireLine 7 1 6 [zR 0, zI l] (wC t nm s D H ol ct k y si fl wi) (zT (0 ≤ l ∧ l < s.2.2.2.1) none (wC t nm s D H ol ct k y si fl wi) eIO (wC t nm s D H ol ct k y si fl wi)) := by
  refine z_introF (ls := [(0, _), (1, _)]) (by decide +kernel) rfl (fun _ _ => rfl) (fun _ _ => Nat.le_of_ble_eq_true rfl) ?_
  obtain ⟨hT9, hnm, hs9, hD9, hH9, hol, hct, hk9, hq9, hsi, hfl, hwi⟩ := id h
  obtain ⟨hT8, hT7, hT6⟩ := id hT9
  obtain ⟨z1, z2, zT1, z4, zF1, zL1⟩ := id hs9.1
  have zNm := hs9.2.1
  have zg := hs9.2.2.1
  have zm := hs9.2.2.2.1
  have hln := hs9.2.2.2.2
  have zQ1 := fun i h1 h2 => (zNm i h1 h2).2.1
  have zS : okS s := ⟨zm, zL1⟩
  refine wa_aload_n (pc' := 1) dX9_requireLine_0 rfl rfl rfl ?_
  refine wa_getfield (pc' := 4) (j := 2) zc_X9 lk_X9_22 dX9_requireLine_1 rfl (by decide) rfl rfl ?_
  refine wa_iload_n (pc' := 5) dX9_requireLine_4 rfl rfl rfl ?_
  refine wa_rV (pc' := 8) (k_X8_hasLine s.1 s.2.1 s.2.2.1 s.2.2.2.1 s.2.2.2.2.1 s.2.2.2.2.2.1 s.2.2.2.2.2.2 l (by omega) (by omega)) ok_X8_hasLine lm_X9_268 dX9_requireLine_5 rfl [5, 6, 7, 8] rfl (by decide) rfl rfl rfl rfl rfl (by decide) (Nat.le_of_ble_eq_true rfl) rfl (by decide) (by decide) rfl ?_
  refine wa_if_ne (tgt := 22) (pc' := 11) dX9_requireLine_8 (by decide) rfl (by split <;> omega) (fun c8 => ?_) (fun c8 => ?_)
  · have h8 : 0 ≤ l ∧ l < s.2.2.2.1 := by split at c8 <;> first | assumption | omega
    refine wa_vret dX9_requireLine_22 rfl (by decide) (by decide) ?_
    exact zT_v (by omega) rfl rfl
  · have h8 : ¬ (0 ≤ l ∧ l < s.2.2.2.1) := by split at c8 <;> first | assumption | omega
    exact wa_throwSW (text := "there is no such line") zx_X9_122_126 (by decide) dX9_requireLine_11 dX9_requireLine_14 dX9_requireLine_15 dX9_requireLine_18 dX9_requireLine_21 rfl (by decide) (by decide) (by decide) (by decide) (by exact zT_x (by omega) rfl)

set_option maxRecDepth 10000 in
set_option maxHeartbeats 1000000 in
theorem k_X9_requireChord (t nm : zRw) (s D : zSh) (H : Nat → zSh) (ol ct : Int) (k : zKd) (y : zLy) (si fl wi : Int) (h : okC (t, nm, s, D, H, ol, ct, k, y, si, fl, wi)) (i : Int) (hi : zin i) : zMet q_X9_requireChord 7 1 6 [zR 0, zI i] (wC t nm s D H ol ct k y si fl wi) (zT (0 ≤ i ∧ i < s.2.2.2.2.1) none (wC t nm s D H ol ct k y si fl wi) eIO (wC t nm s D H ol ct k y si fl wi)) := by
  refine z_introF (ls := [(0, _), (1, _)]) (by decide +kernel) rfl (fun _ _ => rfl) (fun _ _ => Nat.le_of_ble_eq_true rfl) ?_
  obtain ⟨hT9, hnm, hs9, hD9, hH9, hol, hct, hk9, hq9, hsi, hfl, hwi⟩ := id h
  obtain ⟨hT8, hT7, hT6⟩ := id hT9
  obtain ⟨z1, z2, zT1, z4, zF1, zL1⟩ := id hs9.1
  have zNm := hs9.2.1
  have zg := hs9.2.2.1
  have zm := hs9.2.2.2.1
  have hln := hs9.2.2.2.2
  have zQ1 := fun i h1 h2 => (zNm i h1 h2).2.1
  have zS : okS s := ⟨zm, zL1⟩
  refine wa_iload_n (pc' := 1) dX9_requireChord_0 rfl rfl rfl ?_
  refine wa_if_lt (tgt := 15) (pc' := 4) dX9_requireChord_1 (by decide) rfl (by omega) (fun c1 => ?_) (fun c1 => ?_)
  · exact wa_throwSW (text := "there is no such chord") zx_X9_122_126 (by decide) dX9_requireChord_15 dX9_requireChord_18 dX9_requireChord_19 dX9_requireChord_22 dX9_requireChord_25 rfl (by decide) (by decide) (by decide) (by decide) (by exact zT_x (by omega) rfl)
  · refine wa_iload_n (pc' := 5) dX9_requireChord_4 rfl rfl rfl ?_
    refine wa_aload_n (pc' := 6) dX9_requireChord_5 rfl rfl rfl ?_
    refine wa_getfield (pc' := 9) (j := 2) zc_X9 lk_X9_22 dX9_requireChord_6 rfl (by decide) rfl rfl ?_
    refine wa_rV (pc' := 12) (k_X8_chordCount s.1 s.2.1 s.2.2.1 s.2.2.2.1 s.2.2.2.2.1 s.2.2.2.2.2.1 s.2.2.2.2.2.2) ok_X8_chordCount lm_X9_107 dX9_requireChord_9 rfl [5, 6, 7, 8] rfl (by decide) rfl rfl rfl rfl rfl (by decide) (Nat.le_of_ble_eq_true rfl) rfl (by decide) (by decide) rfl ?_
    refine wa_icmp_lt (tgt := 26) (pc' := 15) dX9_requireChord_12 (by decide) rfl (by omega) (by omega) (fun c12 => ?_) (fun c12 => ?_)
    · refine wa_vret dX9_requireChord_26 rfl (by decide) (by decide) ?_
      exact zT_v (by omega) rfl rfl
    · exact wa_throwSW (text := "there is no such chord") zx_X9_122_126 (by decide) dX9_requireChord_15 dX9_requireChord_18 dX9_requireChord_19 dX9_requireChord_22 dX9_requireChord_25 rfl (by decide) (by decide) (by decide) (by decide) (by exact zT_x (by omega) rfl)

set_option maxRecDepth 10000 in
set_option maxHeartbeats 1000000 in
theorem k_X9_requireIndex (t nm : zRw) (s D : zSh) (H : Nat → zSh) (ol ct : Int) (k : zKd) (y : zLy) (si fl wi : Int) (h : okC (t, nm, s, D, H, ol, ct, k, y, si, fl, wi)) (i : Int) (hi : zin i) : zMet q_X9_requireIndex 7 1 6 [zR 0, zI i] (wC t nm s D H ol ct k y si fl wi) (zT (0 ≤ i) none (wC t nm s D H ol ct k y si fl wi) eIO (wC t nm s D H ol ct k y si fl wi)) := by
  refine z_introF (ls := [(0, _), (1, _)]) (by decide +kernel) rfl (fun _ _ => rfl) (fun _ _ => Nat.le_of_ble_eq_true rfl) ?_
  obtain ⟨hT9, hnm, hs9, hD9, hH9, hol, hct, hk9, hq9, hsi, hfl, hwi⟩ := id h
  obtain ⟨hT8, hT7, hT6⟩ := id hT9
  obtain ⟨z1, z2, zT1, z4, zF1, zL1⟩ := id hs9.1
  have zNm := hs9.2.1
  have zg := hs9.2.2.1
  have zm := hs9.2.2.2.1
  have hln := hs9.2.2.2.2
  have zQ1 := fun i h1 h2 => (zNm i h1 h2).2.1
  have zS : okS s := ⟨zm, zL1⟩
  refine wa_iload_n (pc' := 1) dX9_requireIndex_0 rfl rfl rfl ?_
  refine wa_if_ge (tgt := 15) (pc' := 4) dX9_requireIndex_1 (by decide) rfl (by omega) (fun c1 => ?_) (fun c1 => ?_)
  · refine wa_vret dX9_requireIndex_15 rfl (by decide) (by decide) ?_
    exact zT_v (by omega) rfl rfl
  · exact wa_throwSW (text := "the index is negative") zx_X9_122_126 (by decide) dX9_requireIndex_4 dX9_requireIndex_7 dX9_requireIndex_8 dX9_requireIndex_11 dX9_requireIndex_14 rfl (by decide) (by decide) (by decide) (by decide) (by exact zT_x (by omega) rfl)

set_option maxRecDepth 10000 in
set_option maxHeartbeats 1000000 in
theorem k_X9_requireChordColumn (t nm : zRw) (s D : zSh) (H : Nat → zSh) (ol ct : Int) (k : zKd) (y : zLy) (si fl wi : Int) (h : okC (t, nm, s, D, H, ol, ct, k, y, si, fl, wi)) (l : Int) (hl : 0 ≤ l ∧ l < s.2.2.2.1) (c : Int) (hc : zin c) : zMet q_X9_requireChordColumn 7 1 6 [zR 0, zI l, zI c] (wC t nm s D H ol ct k y si fl wi) (zT (0 ≤ c ∧ c ≤ s.2.1 (l + 1) - s.2.1 l) none (wC t nm s D H ol ct k y si fl wi) eIO (wC t nm s D H ol ct k y si fl wi)) := by
  refine z_introF (ls := [(0, _), (1, _), (2, _)]) (by decide +kernel) rfl (fun _ _ => rfl) (fun _ _ => Nat.le_of_ble_eq_true rfl) ?_
  obtain ⟨hT9, hnm, hs9, hD9, hH9, hol, hct, hk9, hq9, hsi, hfl, hwi⟩ := id h
  obtain ⟨hT8, hT7, hT6⟩ := id hT9
  obtain ⟨z1, z2, zT1, z4, zF1, zL1⟩ := id hs9.1
  have zNm := hs9.2.1
  have zg := hs9.2.2.1
  have zm := hs9.2.2.2.1
  have hln := hs9.2.2.2.2
  have zQ1 := fun i h1 h2 => (zNm i h1 h2).2.1
  have zS : okS s := ⟨zm, zL1⟩
  have e1 := zT1 (l + 1) (by omega) (by omega)
  have e2 := zT1 l (by omega) (by omega)
  refine wa_iload_n (pc' := 1) dX9_requireChordColumn_0 rfl rfl rfl ?_
  refine wa_if_lt (tgt := 16) (pc' := 4) dX9_requireChordColumn_1 (by decide) rfl (by omega) (fun c1 => ?_) (fun c1 => ?_)
  · exact wa_throwS (text := "there is no such column") zx_X9_122_126 (by decide) dX9_requireChordColumn_16 dX9_requireChordColumn_19 dX9_requireChordColumn_20 dX9_requireChordColumn_22 dX9_requireChordColumn_25 rfl (by decide) (by decide) (by decide) (by decide) (by exact zT_x (by omega) rfl)
  · refine wa_iload_n (pc' := 5) dX9_requireChordColumn_4 rfl rfl rfl ?_
    refine wa_aload_n (pc' := 6) dX9_requireChordColumn_5 rfl rfl rfl ?_
    refine wa_getfield (pc' := 9) (j := 2) zc_X9 lk_X9_22 dX9_requireChordColumn_6 rfl (by decide) rfl rfl ?_
    refine wa_iload_n (pc' := 10) dX9_requireChordColumn_9 rfl rfl rfl ?_
    refine wa_rV (pc' := 13) (k_X8_lengthOf s.1 s.2.1 s.2.2.1 s.2.2.2.1 s.2.2.2.2.1 s.2.2.2.2.2.1 s.2.2.2.2.2.2 l (by omega)) ok_X8_lengthOf lm_X9_118 dX9_requireChordColumn_10 rfl [5, 6, 7, 8] rfl (by decide) rfl rfl rfl rfl rfl (by decide) (Nat.le_of_ble_eq_true rfl) rfl (by decide) (by decide) rfl ?_
    refine wa_icmp_le (tgt := 26) (pc' := 16) dX9_requireChordColumn_13 (by decide) rfl (by omega) (by omega) (fun c13 => ?_) (fun c13 => ?_)
    · refine wa_vret dX9_requireChordColumn_26 rfl (by decide) (by decide) ?_
      exact zT_v (by omega) rfl rfl
    · exact wa_throwS (text := "there is no such column") zx_X9_122_126 (by decide) dX9_requireChordColumn_16 dX9_requireChordColumn_19 dX9_requireChordColumn_20 dX9_requireChordColumn_22 dX9_requireChordColumn_25 rfl (by decide) (by decide) (by decide) (by decide) (by exact zT_x (by omega) rfl)

set_option maxRecDepth 10000 in
set_option maxHeartbeats 1000000 in
theorem k_X9_requireTonic (t nm : zRw) (s D : zSh) (H : Nat → zSh) (ol ct : Int) (k : zKd) (y : zLy) (si fl wi : Int) (h : okC (t, nm, s, D, H, ol, ct, k, y, si, fl, wi)) (p : Int) (hp : zin p) (b : Int) (hb : b = 0 ∨ b = 1) : zMet q_X9_requireTonic 7 1 6 [zR 0, zI p, zI b] (wC t nm s D H ol ct k y si fl wi) (zT (-6 ≤ p - 3 * b ∧ p - 3 * b ≤ 6) none (wC t nm s D H ol ct k y si fl wi) eIA (wC t nm s D H ol ct k y si fl wi)) := by
  refine z_introF (ls := [(0, _), (1, _), (2, _)]) (by decide +kernel) rfl (fun _ _ => rfl) (fun _ _ => Nat.le_of_ble_eq_true rfl) ?_
  obtain ⟨hT9, hnm, hs9, hD9, hH9, hol, hct, hk9, hq9, hsi, hfl, hwi⟩ := id h
  obtain ⟨hT8, hT7, hT6⟩ := id hT9
  obtain ⟨z1, z2, zT1, z4, zF1, zL1⟩ := id hs9.1
  have zNm := hs9.2.1
  have zg := hs9.2.2.1
  have zm := hs9.2.2.2.1
  have hln := hs9.2.2.2.2
  have zQ1 := fun i h1 h2 => (zNm i h1 h2).2.1
  have zS : okS s := ⟨zm, zL1⟩
  refine wa_iload_n (pc' := 1) dX9_requireTonic_0 rfl rfl rfl ?_
  refine wa_if_eq (tgt := 8) (pc' := 4) dX9_requireTonic_1 (by decide) rfl (by omega) (fun c1 => ?_) (fun c1 => ?_)
  · refine wa_iconst (pc' := 9) dX9_requireTonic_8 rfl ?_
    refine wa_istore_n (pc' := 10) (ls' := [(3, _), (0, _), (1, _), (2, _)]) dX9_requireTonic_9 rfl rfl (by decide) rfl ?_
    refine wa_iload_n (pc' := 11) dX9_requireTonic_10 rfl rfl rfl ?_
    refine wa_iload_n (pc' := 12) dX9_requireTonic_11 rfl rfl rfl ?_
    refine wa_bipush (pc' := 14) dX9_requireTonic_12 rfl rfl ?_
    refine wa_isub (pc' := 15) dX9_requireTonic_14 rfl ?_
    refine wa_icmp_lt (tgt := 26) (pc' := 18) dX9_requireTonic_15 (by decide) rfl (by omega) (by omega) (fun c15 => ?_) (fun c15 => ?_)
    · exact wa_throwSW (text := "no key has this tonic") zx_X9_65_69 (by decide) dX9_requireTonic_26 dX9_requireTonic_29 dX9_requireTonic_30 dX9_requireTonic_33 dX9_requireTonic_36 rfl (by decide) (by decide) (by decide) (by decide) (by exact zT_x (by omega) rfl)
    · refine wa_iload_n (pc' := 19) dX9_requireTonic_18 rfl rfl rfl ?_
      refine wa_iload_n (pc' := 20) dX9_requireTonic_19 rfl rfl rfl ?_
      refine wa_bipush (pc' := 22) dX9_requireTonic_20 rfl rfl ?_
      refine wa_iadd (pc' := 23) dX9_requireTonic_22 rfl ?_
      refine wa_icmp_le (tgt := 37) (pc' := 26) dX9_requireTonic_23 (by decide) rfl (by omega) (by omega) (fun c23 => ?_) (fun c23 => ?_)
      · refine wa_vret dX9_requireTonic_37 rfl (by decide) (by decide) ?_
        exact zT_v (by omega) rfl rfl
      · exact wa_throwSW (text := "no key has this tonic") zx_X9_65_69 (by decide) dX9_requireTonic_26 dX9_requireTonic_29 dX9_requireTonic_30 dX9_requireTonic_33 dX9_requireTonic_36 rfl (by decide) (by decide) (by decide) (by decide) (by exact zT_x (by omega) rfl)
  · refine wa_iconst (pc' := 5) dX9_requireTonic_4 rfl ?_
    refine wa_goto (pc' := 9) dX9_requireTonic_5 (by decide) ?_
    refine wa_istore_n (pc' := 10) (ls' := [(3, _), (0, _), (1, _), (2, _)]) dX9_requireTonic_9 rfl rfl (by decide) rfl ?_
    refine wa_iload_n (pc' := 11) dX9_requireTonic_10 rfl rfl rfl ?_
    refine wa_iload_n (pc' := 12) dX9_requireTonic_11 rfl rfl rfl ?_
    refine wa_bipush (pc' := 14) dX9_requireTonic_12 rfl rfl ?_
    refine wa_isub (pc' := 15) dX9_requireTonic_14 rfl ?_
    refine wa_icmp_lt (tgt := 26) (pc' := 18) dX9_requireTonic_15 (by decide) rfl (by omega) (by omega) (fun c15 => ?_) (fun c15 => ?_)
    · exact wa_throwSW (text := "no key has this tonic") zx_X9_65_69 (by decide) dX9_requireTonic_26 dX9_requireTonic_29 dX9_requireTonic_30 dX9_requireTonic_33 dX9_requireTonic_36 rfl (by decide) (by decide) (by decide) (by decide) (by exact zT_x (by omega) rfl)
    · refine wa_iload_n (pc' := 19) dX9_requireTonic_18 rfl rfl rfl ?_
      refine wa_iload_n (pc' := 20) dX9_requireTonic_19 rfl rfl rfl ?_
      refine wa_bipush (pc' := 22) dX9_requireTonic_20 rfl rfl ?_
      refine wa_iadd (pc' := 23) dX9_requireTonic_22 rfl ?_
      refine wa_icmp_le (tgt := 37) (pc' := 26) dX9_requireTonic_23 (by decide) rfl (by omega) (by omega) (fun c23 => ?_) (fun c23 => ?_)
      · refine wa_vret dX9_requireTonic_37 rfl (by decide) (by decide) ?_
        exact zT_v (by omega) rfl rfl
      · exact wa_throwSW (text := "no key has this tonic") zx_X9_65_69 (by decide) dX9_requireTonic_26 dX9_requireTonic_29 dX9_requireTonic_30 dX9_requireTonic_33 dX9_requireTonic_36 rfl (by decide) (by decide) (by decide) (by decide) (by exact zT_x (by omega) rfl)

def tkS (f : Int) (s : zSh) : zSh := (s.1, s.2.1, s.2.2.1, s.2.2.2.1, s.2.2.2.2.1, sigO (if 6 < f then f - 100 else f) (if 6 < f then 1 else 0), if 6 < f then 1 else 0)
theorem tkS_p {f : Int} {s : zSh} (h : 6 < f) : tkS f s = (s.1, s.2.1, s.2.2.1, s.2.2.2.1, s.2.2.2.2.1, sigO (f - 100) 1, 1) := by
  unfold tkS
  rw [if_pos h, if_pos h]
theorem tkS_n {f : Int} {s : zSh} (h : ¬ 6 < f) : tkS f s = (s.1, s.2.1, s.2.2.1, s.2.2.2.1, s.2.2.2.2.1, sigO f 0, 0) := by
  unfold tkS
  rw [if_neg h, if_neg h]
set_option maxRecDepth 10000 in
set_option maxHeartbeats 1000000 in
theorem k_X9_takeKey (t nm : zRw) (s D : zSh) (H : Nat → zSh) (ol ct : Int) (k : zKd) (y : zLy) (si fl wi : Int) (f : Int) (hf : -1000 ≤ f ∧ f ≤ 1000) : zMet q_X9_takeKey 1 0 0 [zR 0, zI f] (wC t nm s D H ol ct k y si fl wi) (zD none (wC t nm (tkS f s) D H ol ct k y si fl wi)) := by
  refine z_introF (ls := [(0, _), (1, _)]) (by decide +kernel) rfl (fun _ _ => rfl) (fun _ _ => Nat.le_of_ble_eq_true rfl) ?_
  refine wa_iload_n (pc' := 1) dX9_takeKey_0 rfl rfl rfl ?_
  refine wa_bipush (pc' := 3) dX9_takeKey_1 rfl rfl ?_
  refine wa_icmp_le (tgt := 10) (pc' := 6) dX9_takeKey_3 (by decide) rfl (by omega) (by omega) (fun c3 => ?_) (fun c3 => ?_)
  · refine wa_iconst (pc' := 11) dX9_takeKey_10 rfl ?_
    refine wa_istore_n (pc' := 12) (ls' := [(2, _), (0, _), (1, _)]) dX9_takeKey_11 rfl rfl (by decide) rfl ?_
    refine wa_iload_n (pc' := 13) dX9_takeKey_12 rfl rfl rfl ?_
    refine wa_if_eq (tgt := 23) (pc' := 16) dX9_takeKey_13 (by decide) rfl (by omega) (fun c13 => ?_) (fun c13 => ?_)
    · refine wa_iload_n (pc' := 24) dX9_takeKey_23 rfl rfl rfl ?_
      refine wa_istore_n (pc' := 25) (ls' := [(3, _), (2, _), (0, _), (1, _)]) dX9_takeKey_24 rfl rfl (by decide) rfl ?_
      refine wa_aload_n (pc' := 26) dX9_takeKey_25 rfl rfl rfl ?_
      refine wa_getfield (pc' := 29) (j := 2) zc_X9 lk_X9_22 dX9_takeKey_26 rfl (by decide) rfl rfl ?_
      refine wa_iload_n (pc' := 30) dX9_takeKey_29 rfl rfl rfl ?_
      refine wa_iload_n (pc' := 31) dX9_takeKey_30 rfl rfl rfl ?_
      refine wa_dS (pc' := 34) (w' := (_ :: _ :: _ :: _ :: _ :: _ :: _ :: _ :: _ :: _ :: _ :: _ :: _ :: _ :: _ :: _ :: _ :: _ :: _ :: _ :: _ :: _ :: _ :: _ :: _ :: _ :: _ :: _ :: _ :: _ :: _ :: _ :: _ :: _ :: _ :: _ :: _ :: _ :: _ :: _ :: _ :: _ :: _ :: _ :: _ :: _ :: _ :: _ :: _ :: _ :: _ :: _ :: _ :: [])) (k_X2_signatureOf _ _ (by omega)) ok_X2_signatureOf lm_X9_209 dX9_takeKey_31 rfl [] rfl (by decide) rfl rfl (by decide) (Nat.le_of_ble_eq_true rfl) rfl (by decide) (by decide) rfl rfl rfl ?_
      refine wa_putfieldN (pc' := 37) (j := 5) (w' := (_ :: _ :: _ :: _ :: _ :: zO _ [_, _, _, _, _, _, _] :: _ :: _ :: _ :: _ :: _ :: _ :: _ :: _ :: _ :: _ :: _ :: _ :: _ :: _ :: _ :: _ :: _ :: _ :: _ :: _ :: _ :: _ :: _ :: _ :: _ :: _ :: _ :: _ :: _ :: _ :: _ :: _ :: _ :: _ :: _ :: _ :: _ :: _ :: _ :: _ :: _ :: _ :: _ :: _ :: _ :: _ :: _ :: [])) zc_X8 lk_X9_191 dX9_takeKey_34 rfl (by decide) rfl rfl (Nat.le_of_ble_eq_true rfl) True.intro rfl ?_
      refine wa_aload_n (pc' := 38) dX9_takeKey_37 rfl rfl rfl ?_
      refine wa_getfield (pc' := 41) (j := 2) zc_X9 lk_X9_22 dX9_takeKey_38 rfl (by decide) rfl rfl ?_
      refine wa_iload_n (pc' := 42) dX9_takeKey_41 rfl rfl rfl ?_
      refine wa_putfieldN (pc' := 45) (j := 6) (w' := (_ :: _ :: _ :: _ :: _ :: zO _ [_, _, _, _, _, _, _] :: _ :: _ :: _ :: _ :: _ :: _ :: _ :: _ :: _ :: _ :: _ :: _ :: _ :: _ :: _ :: _ :: _ :: _ :: _ :: _ :: _ :: _ :: _ :: _ :: _ :: _ :: _ :: _ :: _ :: _ :: _ :: _ :: _ :: _ :: _ :: _ :: _ :: _ :: _ :: _ :: _ :: _ :: _ :: _ :: _ :: _ :: _ :: [])) zc_X8 lk_X9_194 dX9_takeKey_42 rfl (by decide) rfl rfl (Nat.le_of_ble_eq_true rfl) (by show _ ∨ _; omega) rfl ?_
      refine wa_vret dX9_takeKey_45 rfl (by decide) (by decide) ?_
      first | exact absurd rfl c13 | exact absurd c13 (by decide) | (have h6 : 6 < f := (by omega); exact zD_i rfl (by rw [tkS_p h6] <;> rfl)) | (have h6 : ¬ 6 < f := (by omega); exact zD_i rfl (by rw [tkS_n h6] <;> rfl))
    · refine wa_iload_n (pc' := 17) dX9_takeKey_16 rfl rfl rfl ?_
      refine wa_bipush (pc' := 19) dX9_takeKey_17 rfl rfl ?_
      refine wa_isub (pc' := 20) dX9_takeKey_19 rfl ?_
      refine wa_goto (pc' := 24) dX9_takeKey_20 (by decide) ?_
      refine wa_istore_n (pc' := 25) (ls' := [(3, _), (2, _), (0, _), (1, _)]) dX9_takeKey_24 rfl rfl (by decide) rfl ?_
      refine wa_aload_n (pc' := 26) dX9_takeKey_25 rfl rfl rfl ?_
      refine wa_getfield (pc' := 29) (j := 2) zc_X9 lk_X9_22 dX9_takeKey_26 rfl (by decide) rfl rfl ?_
      refine wa_iload_n (pc' := 30) dX9_takeKey_29 rfl rfl rfl ?_
      refine wa_iload_n (pc' := 31) dX9_takeKey_30 rfl rfl rfl ?_
      refine wa_dS (pc' := 34) (w' := (_ :: _ :: _ :: _ :: _ :: _ :: _ :: _ :: _ :: _ :: _ :: _ :: _ :: _ :: _ :: _ :: _ :: _ :: _ :: _ :: _ :: _ :: _ :: _ :: _ :: _ :: _ :: _ :: _ :: _ :: _ :: _ :: _ :: _ :: _ :: _ :: _ :: _ :: _ :: _ :: _ :: _ :: _ :: _ :: _ :: _ :: _ :: _ :: _ :: _ :: _ :: _ :: _ :: [])) (k_X2_signatureOf _ _ (by omega)) ok_X2_signatureOf lm_X9_209 dX9_takeKey_31 rfl [] rfl (by decide) rfl rfl (by decide) (Nat.le_of_ble_eq_true rfl) rfl (by decide) (by decide) rfl rfl rfl ?_
      refine wa_putfieldN (pc' := 37) (j := 5) (w' := (_ :: _ :: _ :: _ :: _ :: zO _ [_, _, _, _, _, _, _] :: _ :: _ :: _ :: _ :: _ :: _ :: _ :: _ :: _ :: _ :: _ :: _ :: _ :: _ :: _ :: _ :: _ :: _ :: _ :: _ :: _ :: _ :: _ :: _ :: _ :: _ :: _ :: _ :: _ :: _ :: _ :: _ :: _ :: _ :: _ :: _ :: _ :: _ :: _ :: _ :: _ :: _ :: _ :: _ :: _ :: _ :: _ :: [])) zc_X8 lk_X9_191 dX9_takeKey_34 rfl (by decide) rfl rfl (Nat.le_of_ble_eq_true rfl) True.intro rfl ?_
      refine wa_aload_n (pc' := 38) dX9_takeKey_37 rfl rfl rfl ?_
      refine wa_getfield (pc' := 41) (j := 2) zc_X9 lk_X9_22 dX9_takeKey_38 rfl (by decide) rfl rfl ?_
      refine wa_iload_n (pc' := 42) dX9_takeKey_41 rfl rfl rfl ?_
      refine wa_putfieldN (pc' := 45) (j := 6) (w' := (_ :: _ :: _ :: _ :: _ :: zO _ [_, _, _, _, _, _, _] :: _ :: _ :: _ :: _ :: _ :: _ :: _ :: _ :: _ :: _ :: _ :: _ :: _ :: _ :: _ :: _ :: _ :: _ :: _ :: _ :: _ :: _ :: _ :: _ :: _ :: _ :: _ :: _ :: _ :: _ :: _ :: _ :: _ :: _ :: _ :: _ :: _ :: _ :: _ :: _ :: _ :: _ :: _ :: _ :: _ :: _ :: _ :: [])) zc_X8 lk_X9_194 dX9_takeKey_42 rfl (by decide) rfl rfl (Nat.le_of_ble_eq_true rfl) (by show _ ∨ _; omega) rfl ?_
      refine wa_vret dX9_takeKey_45 rfl (by decide) (by decide) ?_
      first | exact absurd rfl c13 | exact absurd c13 (by decide) | (have h6 : 6 < f := (by omega); exact zD_i rfl (by rw [tkS_p h6] <;> rfl)) | (have h6 : ¬ 6 < f := (by omega); exact zD_i rfl (by rw [tkS_n h6] <;> rfl))
  · refine wa_iconst (pc' := 7) dX9_takeKey_6 rfl ?_
    refine wa_goto (pc' := 11) dX9_takeKey_7 (by decide) ?_
    refine wa_istore_n (pc' := 12) (ls' := [(2, _), (0, _), (1, _)]) dX9_takeKey_11 rfl rfl (by decide) rfl ?_
    refine wa_iload_n (pc' := 13) dX9_takeKey_12 rfl rfl rfl ?_
    refine wa_if_eq (tgt := 23) (pc' := 16) dX9_takeKey_13 (by decide) rfl (by omega) (fun c13 => ?_) (fun c13 => ?_)
    · refine wa_iload_n (pc' := 24) dX9_takeKey_23 rfl rfl rfl ?_
      refine wa_istore_n (pc' := 25) (ls' := [(3, _), (2, _), (0, _), (1, _)]) dX9_takeKey_24 rfl rfl (by decide) rfl ?_
      refine wa_aload_n (pc' := 26) dX9_takeKey_25 rfl rfl rfl ?_
      refine wa_getfield (pc' := 29) (j := 2) zc_X9 lk_X9_22 dX9_takeKey_26 rfl (by decide) rfl rfl ?_
      refine wa_iload_n (pc' := 30) dX9_takeKey_29 rfl rfl rfl ?_
      refine wa_iload_n (pc' := 31) dX9_takeKey_30 rfl rfl rfl ?_
      refine wa_dS (pc' := 34) (w' := (_ :: _ :: _ :: _ :: _ :: _ :: _ :: _ :: _ :: _ :: _ :: _ :: _ :: _ :: _ :: _ :: _ :: _ :: _ :: _ :: _ :: _ :: _ :: _ :: _ :: _ :: _ :: _ :: _ :: _ :: _ :: _ :: _ :: _ :: _ :: _ :: _ :: _ :: _ :: _ :: _ :: _ :: _ :: _ :: _ :: _ :: _ :: _ :: _ :: _ :: _ :: _ :: _ :: [])) (k_X2_signatureOf _ _ (by omega)) ok_X2_signatureOf lm_X9_209 dX9_takeKey_31 rfl [] rfl (by decide) rfl rfl (by decide) (Nat.le_of_ble_eq_true rfl) rfl (by decide) (by decide) rfl rfl rfl ?_
      refine wa_putfieldN (pc' := 37) (j := 5) (w' := (_ :: _ :: _ :: _ :: _ :: zO _ [_, _, _, _, _, _, _] :: _ :: _ :: _ :: _ :: _ :: _ :: _ :: _ :: _ :: _ :: _ :: _ :: _ :: _ :: _ :: _ :: _ :: _ :: _ :: _ :: _ :: _ :: _ :: _ :: _ :: _ :: _ :: _ :: _ :: _ :: _ :: _ :: _ :: _ :: _ :: _ :: _ :: _ :: _ :: _ :: _ :: _ :: _ :: _ :: _ :: _ :: _ :: [])) zc_X8 lk_X9_191 dX9_takeKey_34 rfl (by decide) rfl rfl (Nat.le_of_ble_eq_true rfl) True.intro rfl ?_
      refine wa_aload_n (pc' := 38) dX9_takeKey_37 rfl rfl rfl ?_
      refine wa_getfield (pc' := 41) (j := 2) zc_X9 lk_X9_22 dX9_takeKey_38 rfl (by decide) rfl rfl ?_
      refine wa_iload_n (pc' := 42) dX9_takeKey_41 rfl rfl rfl ?_
      refine wa_putfieldN (pc' := 45) (j := 6) (w' := (_ :: _ :: _ :: _ :: _ :: zO _ [_, _, _, _, _, _, _] :: _ :: _ :: _ :: _ :: _ :: _ :: _ :: _ :: _ :: _ :: _ :: _ :: _ :: _ :: _ :: _ :: _ :: _ :: _ :: _ :: _ :: _ :: _ :: _ :: _ :: _ :: _ :: _ :: _ :: _ :: _ :: _ :: _ :: _ :: _ :: _ :: _ :: _ :: _ :: _ :: _ :: _ :: _ :: _ :: _ :: _ :: _ :: [])) zc_X8 lk_X9_194 dX9_takeKey_42 rfl (by decide) rfl rfl (Nat.le_of_ble_eq_true rfl) (by show _ ∨ _; omega) rfl ?_
      refine wa_vret dX9_takeKey_45 rfl (by decide) (by decide) ?_
      first | exact absurd rfl c13 | exact absurd c13 (by decide) | (have h6 : 6 < f := (by omega); exact zD_i rfl (by rw [tkS_p h6] <;> rfl)) | (have h6 : ¬ 6 < f := (by omega); exact zD_i rfl (by rw [tkS_n h6] <;> rfl))
    · refine wa_iload_n (pc' := 17) dX9_takeKey_16 rfl rfl rfl ?_
      refine wa_bipush (pc' := 19) dX9_takeKey_17 rfl rfl ?_
      refine wa_isub (pc' := 20) dX9_takeKey_19 rfl ?_
      refine wa_goto (pc' := 24) dX9_takeKey_20 (by decide) ?_
      refine wa_istore_n (pc' := 25) (ls' := [(3, _), (2, _), (0, _), (1, _)]) dX9_takeKey_24 rfl rfl (by decide) rfl ?_
      refine wa_aload_n (pc' := 26) dX9_takeKey_25 rfl rfl rfl ?_
      refine wa_getfield (pc' := 29) (j := 2) zc_X9 lk_X9_22 dX9_takeKey_26 rfl (by decide) rfl rfl ?_
      refine wa_iload_n (pc' := 30) dX9_takeKey_29 rfl rfl rfl ?_
      refine wa_iload_n (pc' := 31) dX9_takeKey_30 rfl rfl rfl ?_
      refine wa_dS (pc' := 34) (w' := (_ :: _ :: _ :: _ :: _ :: _ :: _ :: _ :: _ :: _ :: _ :: _ :: _ :: _ :: _ :: _ :: _ :: _ :: _ :: _ :: _ :: _ :: _ :: _ :: _ :: _ :: _ :: _ :: _ :: _ :: _ :: _ :: _ :: _ :: _ :: _ :: _ :: _ :: _ :: _ :: _ :: _ :: _ :: _ :: _ :: _ :: _ :: _ :: _ :: _ :: _ :: _ :: _ :: [])) (k_X2_signatureOf _ _ (by omega)) ok_X2_signatureOf lm_X9_209 dX9_takeKey_31 rfl [] rfl (by decide) rfl rfl (by decide) (Nat.le_of_ble_eq_true rfl) rfl (by decide) (by decide) rfl rfl rfl ?_
      refine wa_putfieldN (pc' := 37) (j := 5) (w' := (_ :: _ :: _ :: _ :: _ :: zO _ [_, _, _, _, _, _, _] :: _ :: _ :: _ :: _ :: _ :: _ :: _ :: _ :: _ :: _ :: _ :: _ :: _ :: _ :: _ :: _ :: _ :: _ :: _ :: _ :: _ :: _ :: _ :: _ :: _ :: _ :: _ :: _ :: _ :: _ :: _ :: _ :: _ :: _ :: _ :: _ :: _ :: _ :: _ :: _ :: _ :: _ :: _ :: _ :: _ :: _ :: _ :: [])) zc_X8 lk_X9_191 dX9_takeKey_34 rfl (by decide) rfl rfl (Nat.le_of_ble_eq_true rfl) True.intro rfl ?_
      refine wa_aload_n (pc' := 38) dX9_takeKey_37 rfl rfl rfl ?_
      refine wa_getfield (pc' := 41) (j := 2) zc_X9 lk_X9_22 dX9_takeKey_38 rfl (by decide) rfl rfl ?_
      refine wa_iload_n (pc' := 42) dX9_takeKey_41 rfl rfl rfl ?_
      refine wa_putfieldN (pc' := 45) (j := 6) (w' := (_ :: _ :: _ :: _ :: _ :: zO _ [_, _, _, _, _, _, _] :: _ :: _ :: _ :: _ :: _ :: _ :: _ :: _ :: _ :: _ :: _ :: _ :: _ :: _ :: _ :: _ :: _ :: _ :: _ :: _ :: _ :: _ :: _ :: _ :: _ :: _ :: _ :: _ :: _ :: _ :: _ :: _ :: _ :: _ :: _ :: _ :: _ :: _ :: _ :: _ :: _ :: _ :: _ :: _ :: _ :: _ :: _ :: [])) zc_X8 lk_X9_194 dX9_takeKey_42 rfl (by decide) rfl rfl (Nat.le_of_ble_eq_true rfl) (by show _ ∨ _; omega) rfl ?_
      refine wa_vret dX9_takeKey_45 rfl (by decide) (by decide) ?_
      first | exact absurd rfl c13 | exact absurd c13 (by decide) | (have h6 : 6 < f := (by omega); exact zD_i rfl (by rw [tkS_p h6] <;> rfl)) | (have h6 : ¬ 6 < f := (by omega); exact zD_i rfl (by rw [tkS_n h6] <;> rfl))

/-! the face -/
def cs_type (c : Int) : zCS → zP × zCS
  | (t, nm, s, D, H, ol, ct, k, y, si, fl, wi) => if c < 32 ∨ 126 < c then (.inr eIA, (t, nm, s, D, H, ol, ct, k, y, si, fl, wi)) else if 200 ≤ t.1 then (.inr eIS, (t, nm, s, D, H, ol, ct, k, y, si, fl, wi)) else (.inl (some (zI (t.1 + 1))), (rA t c, nm, s, D, H, ol, ct, k, y, si, fl, wi))
set_option maxRecDepth 10000 in
set_option maxHeartbeats 1000000 in
theorem k_X9_type (t nm : zRw) (s D : zSh) (H : Nat → zSh) (ol ct : Int) (k : zKd) (y : zLy) (si fl wi : Int) (h : okC (t, nm, s, D, H, ol, ct, k, y, si, fl, wi)) (c : Int) (hc : zin c)  : zMet q_X9_type 7 1 6 [zR 0, zI c] (wC t nm s D H ol ct k y si fl wi) (zX (cs_type c (t, nm, s, D, H, ol, ct, k, y, si, fl, wi)).1 (wCS (cs_type c (t, nm, s, D, H, ol, ct, k, y, si, fl, wi)).2)) := by
  refine z_introF (ls := [(0, _), (1, _)]) (by decide +kernel) rfl (fun _ _ => rfl) (fun _ _ => Nat.le_of_ble_eq_true rfl) ?_
  obtain ⟨hT9, hnm, hs9, hD9, hH9, hol, hct, hk9, hq9, hsi, hfl, hwi⟩ := id h
  obtain ⟨hT8, hT7, hT6⟩ := id hT9
  obtain ⟨z1, z2, zT1, z4, zF1, zL1⟩ := id hs9.1
  have zNm := hs9.2.1
  have zg := hs9.2.2.1
  have zm := hs9.2.2.2.1
  have hln := hs9.2.2.2.2
  have zQ1 := fun i h1 h2 => (zNm i h1 h2).2.1
  have zS : okS s := ⟨zm, zL1⟩
  refine wa_iload_n (pc' := 1) dX9_type_0 rfl rfl rfl ?_
  refine wa_bipush (pc' := 3) dX9_type_1 rfl rfl ?_
  refine wa_icmp_lt (tgt := 12) (pc' := 6) dX9_type_3 (by decide) rfl (by omega) (by omega) (fun c3 => ?_) (fun c3 => ?_)
  · exact wa_throwS (text := "the code is not from 32 to 126") zx_X9_65_69 (by decide) dX9_type_12 dX9_type_15 dX9_type_16 dX9_type_18 dX9_type_21 rfl (by decide) (by decide) (by decide) (by decide) (by exact zX_e (c := (t, nm, s, D, H, ol, ct, k, y, si, fl, wi)) (by rw [cs_type] <;> ((repeat (first | rw [if_pos (by omega)] | rw [if_neg (by omega)])) <;> rfl)) rfl)
  · refine wa_iload_n (pc' := 7) dX9_type_6 rfl rfl rfl ?_
    refine wa_bipush (pc' := 9) dX9_type_7 rfl rfl ?_
    refine wa_icmp_le (tgt := 22) (pc' := 12) dX9_type_9 (by decide) rfl (by omega) (by omega) (fun c9 => ?_) (fun c9 => ?_)
    · refine wa_aload_n (pc' := 23) dX9_type_22 rfl rfl rfl ?_
      refine wa_getfield (pc' := 26) (j := 0) zc_X9 lk_X9_10 dX9_type_23 rfl (by decide) rfl rfl ?_
      refine wa_rV (pc' := 29) (k_X7_size t) ok_X7_size lm_X9_72 dX9_type_26 rfl [1, 2] rfl (by decide) rfl rfl rfl rfl rfl (by decide) (Nat.le_of_ble_eq_true rfl) rfl (by decide) (by decide) rfl ?_
      refine wa_sipush (pc' := 32) dX9_type_29 rfl rfl ?_
      refine wa_icmp_lt (tgt := 45) (pc' := 35) dX9_type_32 (by decide) rfl (by omega) (by omega) (fun c32 => ?_) (fun c32 => ?_)
      · refine wa_aload_n (pc' := 46) dX9_type_45 rfl rfl rfl ?_
        refine wa_getfield (pc' := 49) (j := 0) zc_X9 lk_X9_10 dX9_type_46 rfl (by decide) rfl rfl ?_
        refine wa_iload_n (pc' := 50) dX9_type_49 rfl rfl rfl ?_
        refine wa_i2c (pc' := 51) dX9_type_50 rfl (by omega) (by omega) ?_
        refine wa_dV (pc' := 54) (w' := (_ :: zO _ [_, _] :: zA _ _ _ :: _ :: _ :: _ :: _ :: _ :: _ :: _ :: _ :: _ :: _ :: _ :: _ :: _ :: _ :: _ :: _ :: _ :: _ :: _ :: _ :: _ :: _ :: _ :: _ :: _ :: _ :: _ :: _ :: _ :: _ :: _ :: _ :: _ :: _ :: _ :: _ :: _ :: _ :: _ :: _ :: _ :: _ :: _ :: _ :: _ :: _ :: _ :: _ :: _ :: _ :: [])) (k_X7_add t (by omega) (by omega) c (by omega)) ok_X7_add lm_X9_81 dX9_type_51 rfl [1, 2] rfl (by decide) rfl rfl rfl rfl rfl (by decide) (Nat.le_of_ble_eq_true rfl) rfl (by decide) (by decide) rfl rfl rfl ?_
        refine wa_aload_n (pc' := 55) dX9_type_54 rfl rfl rfl ?_
        refine wa_getfield (pc' := 58) (j := 0) zc_X9 lk_X9_10 dX9_type_55 rfl (by decide) rfl rfl ?_
        refine wa_rV (pc' := 61) (k_X7_size (rA t c)) ok_X7_size lm_X9_72 dX9_type_58 rfl [1, 2] rfl (by decide) rfl rfl rfl rfl rfl (by decide) (Nat.le_of_ble_eq_true rfl) rfl (by decide) (by decide) rfl ?_
        refine wa_iret dX9_type_61 rfl (by decide) (by decide) ?_
        exact zX_e (c := (rA t c, nm, s, D, H, ol, ct, k, y, si, fl, wi)) (by rw [cs_type] <;> ((repeat (first | rw [if_pos (by omega)] | rw [if_neg (by omega)])) <;> rfl)) rfl
      · exact wa_throwS (text := "the text is full") zx_X9_76_80 (by decide) dX9_type_35 dX9_type_38 dX9_type_39 dX9_type_41 dX9_type_44 rfl (by decide) (by decide) (by decide) (by decide) (by exact zX_e (c := (t, nm, s, D, H, ol, ct, k, y, si, fl, wi)) (by rw [cs_type] <;> ((repeat (first | rw [if_pos (by omega)] | rw [if_neg (by omega)])) <;> rfl)) rfl)
    · exact wa_throwS (text := "the code is not from 32 to 126") zx_X9_65_69 (by decide) dX9_type_12 dX9_type_15 dX9_type_16 dX9_type_18 dX9_type_21 rfl (by decide) (by decide) (by decide) (by decide) (by exact zX_e (c := (t, nm, s, D, H, ol, ct, k, y, si, fl, wi)) (by rw [cs_type] <;> ((repeat (first | rw [if_pos (by omega)] | rw [if_neg (by omega)])) <;> rfl)) rfl)

def cs_clearText : zCS → zP × zCS
  | (t, nm, s, D, H, ol, ct, k, y, si, fl, wi) => (.inl (some (zI (t.1))), (rC t 0, nm, s, D, H, ol, ct, k, y, si, fl, wi))
set_option maxRecDepth 10000 in
set_option maxHeartbeats 1000000 in
theorem k_X9_clearText (t nm : zRw) (s D : zSh) (H : Nat → zSh) (ol ct : Int) (k : zKd) (y : zLy) (si fl wi : Int) (h : okC (t, nm, s, D, H, ol, ct, k, y, si, fl, wi))   : zMet q_X9_clearText 1 0 0 [zR 0] (wC t nm s D H ol ct k y si fl wi) (zX (cs_clearText (t, nm, s, D, H, ol, ct, k, y, si, fl, wi)).1 (wCS (cs_clearText (t, nm, s, D, H, ol, ct, k, y, si, fl, wi)).2)) := by
  refine z_introF (ls := [(0, _)]) (by decide +kernel) rfl (fun _ _ => rfl) (fun _ _ => Nat.le_of_ble_eq_true rfl) ?_
  obtain ⟨hT9, hnm, hs9, hD9, hH9, hol, hct, hk9, hq9, hsi, hfl, hwi⟩ := id h
  obtain ⟨hT8, hT7, hT6⟩ := id hT9
  obtain ⟨z1, z2, zT1, z4, zF1, zL1⟩ := id hs9.1
  have zNm := hs9.2.1
  have zg := hs9.2.2.1
  have zm := hs9.2.2.2.1
  have hln := hs9.2.2.2.2
  have zQ1 := fun i h1 h2 => (zNm i h1 h2).2.1
  have zS : okS s := ⟨zm, zL1⟩
  refine wa_aload_n (pc' := 1) dX9_clearText_0 rfl rfl rfl ?_
  refine wa_getfield (pc' := 4) (j := 0) zc_X9 lk_X9_10 dX9_clearText_1 rfl (by decide) rfl rfl ?_
  refine wa_rV (pc' := 7) (k_X7_size t) ok_X7_size lm_X9_72 dX9_clearText_4 rfl [1, 2] rfl (by decide) rfl rfl rfl rfl rfl (by decide) (Nat.le_of_ble_eq_true rfl) rfl (by decide) (by decide) rfl ?_
  refine wa_istore_n (pc' := 8) (ls' := [(1, _), (0, _)]) dX9_clearText_7 rfl rfl (by decide) rfl ?_
  refine wa_aload_n (pc' := 9) dX9_clearText_8 rfl rfl rfl ?_
  refine wa_getfield (pc' := 12) (j := 0) zc_X9 lk_X9_10 dX9_clearText_9 rfl (by decide) rfl rfl ?_
  refine wa_iconst (pc' := 13) dX9_clearText_12 rfl ?_
  refine wa_dV (pc' := 16) (w' := (_ :: zO _ [_, _] :: zA _ _ _ :: _ :: _ :: _ :: _ :: _ :: _ :: _ :: _ :: _ :: _ :: _ :: _ :: _ :: _ :: _ :: _ :: _ :: _ :: _ :: _ :: _ :: _ :: _ :: _ :: _ :: _ :: _ :: _ :: _ :: _ :: _ :: _ :: _ :: _ :: _ :: _ :: _ :: _ :: _ :: _ :: _ :: _ :: _ :: _ :: _ :: _ :: _ :: _ :: _ :: _ :: [])) (k_X7_cutTo t (by omega) (by omega) 0 (by omega)) ok_X7_cutTo lm_X9_85 dX9_clearText_13 rfl [1, 2] rfl (by decide) rfl rfl rfl rfl rfl (by decide) (Nat.le_of_ble_eq_true rfl) rfl (by decide) (by decide) rfl rfl rfl ?_
  refine wa_iload_n (pc' := 17) dX9_clearText_16 rfl rfl rfl ?_
  refine wa_iret dX9_clearText_17 rfl (by decide) (by decide) ?_
  exact zX_e (c := (rC t 0, nm, s, D, H, ol, ct, k, y, si, fl, wi)) (by rw [cs_clearText] <;> ((repeat (first | rw [if_pos (by omega)] | rw [if_neg (by omega)])) <;> rfl)) rfl

def cs_setSimple (b : Int) : zCS → zP × zCS
  | (t, nm, s, D, H, ol, ct, k, y, si, fl, wi) => (.inl (some (zI (si))), (t, nm, s, D, H, ol, ct, k, y, b, fl, wi))
set_option maxRecDepth 10000 in
set_option maxHeartbeats 1000000 in
theorem k_X9_setSimple (t nm : zRw) (s D : zSh) (H : Nat → zSh) (ol ct : Int) (k : zKd) (y : zLy) (si fl wi : Int) (h : okC (t, nm, s, D, H, ol, ct, k, y, si, fl, wi)) (b : Int) (hb : b = 0 ∨ b = 1)  : zMet q_X9_setSimple 0 0 0 [zR 0, zI b] (wC t nm s D H ol ct k y si fl wi) (zX (cs_setSimple b (t, nm, s, D, H, ol, ct, k, y, si, fl, wi)).1 (wCS (cs_setSimple b (t, nm, s, D, H, ol, ct, k, y, si, fl, wi)).2)) := by
  refine z_introF (ls := [(0, _), (1, _)]) (by decide +kernel) rfl (fun _ _ => rfl) (fun _ _ => Nat.le_of_ble_eq_true rfl) ?_
  obtain ⟨hT9, hnm, hs9, hD9, hH9, hol, hct, hk9, hq9, hsi, hfl, hwi⟩ := id h
  obtain ⟨hT8, hT7, hT6⟩ := id hT9
  obtain ⟨z1, z2, zT1, z4, zF1, zL1⟩ := id hs9.1
  have zNm := hs9.2.1
  have zg := hs9.2.2.1
  have zm := hs9.2.2.2.1
  have hln := hs9.2.2.2.2
  have zQ1 := fun i h1 h2 => (zNm i h1 h2).2.1
  have zS : okS s := ⟨zm, zL1⟩
  refine wa_aload_n (pc' := 1) dX9_setSimple_0 rfl rfl rfl ?_
  refine wa_getfield (pc' := 4) (j := 7) zc_X9 lk_X9_54 dX9_setSimple_1 rfl (by decide) rfl rfl ?_
  refine wa_istore_n (pc' := 5) (ls' := [(2, _), (0, _), (1, _)]) dX9_setSimple_4 rfl rfl (by decide) rfl ?_
  refine wa_aload_n (pc' := 6) dX9_setSimple_5 rfl rfl rfl ?_
  refine wa_iload_n (pc' := 7) dX9_setSimple_6 rfl rfl rfl ?_
  refine wa_putfield (pc' := 10) (j := 7) (w' := (zO _ [_, _, _, _, _, _, _, _, _, _] :: _ :: _ :: _ :: _ :: _ :: _ :: _ :: _ :: _ :: _ :: _ :: _ :: _ :: _ :: _ :: _ :: _ :: _ :: _ :: _ :: _ :: _ :: _ :: _ :: _ :: _ :: _ :: _ :: _ :: _ :: _ :: _ :: _ :: _ :: _ :: _ :: _ :: _ :: _ :: _ :: _ :: _ :: _ :: _ :: _ :: _ :: _ :: _ :: _ :: _ :: _ :: _ :: [])) zc_X9 lk_X9_54 dX9_setSimple_7 rfl (by decide) rfl rfl (Nat.le_of_ble_eq_true rfl) (by show _ ∨ _; omega) rfl ?_
  refine wa_iload_n (pc' := 11) dX9_setSimple_10 rfl rfl rfl ?_
  refine wa_zret dX9_setSimple_11 rfl (by decide) (by decide) (by omega) ?_
  exact zX_e (c := (t, nm, s, D, H, ol, ct, k, y, b, fl, wi)) (by rw [cs_setSimple] <;> ((repeat (first | rw [if_pos (by omega)] | rw [if_neg (by omega)])) <;> rfl)) rfl

def cs_setFlats (b : Int) : zCS → zP × zCS
  | (t, nm, s, D, H, ol, ct, k, y, si, fl, wi) => (.inl (some (zI (fl))), (t, nm, s, D, H, ol, ct, k, y, si, b, wi))
set_option maxRecDepth 10000 in
set_option maxHeartbeats 1000000 in
theorem k_X9_setFlats (t nm : zRw) (s D : zSh) (H : Nat → zSh) (ol ct : Int) (k : zKd) (y : zLy) (si fl wi : Int) (h : okC (t, nm, s, D, H, ol, ct, k, y, si, fl, wi)) (b : Int) (hb : b = 0 ∨ b = 1)  : zMet q_X9_setFlats 0 0 0 [zR 0, zI b] (wC t nm s D H ol ct k y si fl wi) (zX (cs_setFlats b (t, nm, s, D, H, ol, ct, k, y, si, fl, wi)).1 (wCS (cs_setFlats b (t, nm, s, D, H, ol, ct, k, y, si, fl, wi)).2)) := by
  refine z_introF (ls := [(0, _), (1, _)]) (by decide +kernel) rfl (fun _ _ => rfl) (fun _ _ => Nat.le_of_ble_eq_true rfl) ?_
  obtain ⟨hT9, hnm, hs9, hD9, hH9, hol, hct, hk9, hq9, hsi, hfl, hwi⟩ := id h
  obtain ⟨hT8, hT7, hT6⟩ := id hT9
  obtain ⟨z1, z2, zT1, z4, zF1, zL1⟩ := id hs9.1
  have zNm := hs9.2.1
  have zg := hs9.2.2.1
  have zm := hs9.2.2.2.1
  have hln := hs9.2.2.2.2
  have zQ1 := fun i h1 h2 => (zNm i h1 h2).2.1
  have zS : okS s := ⟨zm, zL1⟩
  refine wa_aload_n (pc' := 1) dX9_setFlats_0 rfl rfl rfl ?_
  refine wa_getfield (pc' := 4) (j := 8) zc_X9 lk_X9_58 dX9_setFlats_1 rfl (by decide) rfl rfl ?_
  refine wa_istore_n (pc' := 5) (ls' := [(2, _), (0, _), (1, _)]) dX9_setFlats_4 rfl rfl (by decide) rfl ?_
  refine wa_aload_n (pc' := 6) dX9_setFlats_5 rfl rfl rfl ?_
  refine wa_iload_n (pc' := 7) dX9_setFlats_6 rfl rfl rfl ?_
  refine wa_putfield (pc' := 10) (j := 8) (w' := (zO _ [_, _, _, _, _, _, _, _, _, _] :: _ :: _ :: _ :: _ :: _ :: _ :: _ :: _ :: _ :: _ :: _ :: _ :: _ :: _ :: _ :: _ :: _ :: _ :: _ :: _ :: _ :: _ :: _ :: _ :: _ :: _ :: _ :: _ :: _ :: _ :: _ :: _ :: _ :: _ :: _ :: _ :: _ :: _ :: _ :: _ :: _ :: _ :: _ :: _ :: _ :: _ :: _ :: _ :: _ :: _ :: _ :: _ :: [])) zc_X9 lk_X9_58 dX9_setFlats_7 rfl (by decide) rfl rfl (Nat.le_of_ble_eq_true rfl) (by show _ ∨ _; omega) rfl ?_
  refine wa_iload_n (pc' := 11) dX9_setFlats_10 rfl rfl rfl ?_
  refine wa_zret dX9_setFlats_11 rfl (by decide) (by decide) (by omega) ?_
  exact zX_e (c := (t, nm, s, D, H, ol, ct, k, y, si, b, wi)) (by rw [cs_setFlats] <;> ((repeat (first | rw [if_pos (by omega)] | rw [if_neg (by omega)])) <;> rfl)) rfl

def cs_setWidth (w : Int) : zCS → zP × zCS
  | (t, nm, s, D, H, ol, ct, k, y, si, fl, wi) => if w < 10 ∨ 200 < w then (.inr eIA, (t, nm, s, D, H, ol, ct, k, y, si, fl, wi)) else (.inl (some (zI (wi))), (t, nm, s, D, H, ol, ct, k, y, si, fl, w))
set_option maxRecDepth 10000 in
set_option maxHeartbeats 1000000 in
theorem k_X9_setWidth (t nm : zRw) (s D : zSh) (H : Nat → zSh) (ol ct : Int) (k : zKd) (y : zLy) (si fl wi : Int) (h : okC (t, nm, s, D, H, ol, ct, k, y, si, fl, wi)) (w : Int) (hw : zin w)  : zMet q_X9_setWidth 7 1 6 [zR 0, zI w] (wC t nm s D H ol ct k y si fl wi) (zX (cs_setWidth w (t, nm, s, D, H, ol, ct, k, y, si, fl, wi)).1 (wCS (cs_setWidth w (t, nm, s, D, H, ol, ct, k, y, si, fl, wi)).2)) := by
  refine z_introF (ls := [(0, _), (1, _)]) (by decide +kernel) rfl (fun _ _ => rfl) (fun _ _ => Nat.le_of_ble_eq_true rfl) ?_
  obtain ⟨hT9, hnm, hs9, hD9, hH9, hol, hct, hk9, hq9, hsi, hfl, hwi⟩ := id h
  obtain ⟨hT8, hT7, hT6⟩ := id hT9
  obtain ⟨z1, z2, zT1, z4, zF1, zL1⟩ := id hs9.1
  have zNm := hs9.2.1
  have zg := hs9.2.2.1
  have zm := hs9.2.2.2.1
  have hln := hs9.2.2.2.2
  have zQ1 := fun i h1 h2 => (zNm i h1 h2).2.1
  have zS : okS s := ⟨zm, zL1⟩
  refine wa_iload_n (pc' := 1) dX9_setWidth_0 rfl rfl rfl ?_
  refine wa_bipush (pc' := 3) dX9_setWidth_1 rfl rfl ?_
  refine wa_icmp_lt (tgt := 13) (pc' := 6) dX9_setWidth_3 (by decide) rfl (by omega) (by omega) (fun c3 => ?_) (fun c3 => ?_)
  · exact wa_throwS (text := "the width is not from 10 to 200") zx_X9_65_69 (by decide) dX9_setWidth_13 dX9_setWidth_16 dX9_setWidth_17 dX9_setWidth_19 dX9_setWidth_22 rfl (by decide) (by decide) (by decide) (by decide) (by exact zX_e (c := (t, nm, s, D, H, ol, ct, k, y, si, fl, wi)) (by rw [cs_setWidth] <;> ((repeat (first | rw [if_pos (by omega)] | rw [if_neg (by omega)])) <;> rfl)) rfl)
  · refine wa_iload_n (pc' := 7) dX9_setWidth_6 rfl rfl rfl ?_
    refine wa_sipush (pc' := 10) dX9_setWidth_7 rfl rfl ?_
    refine wa_icmp_le (tgt := 23) (pc' := 13) dX9_setWidth_10 (by decide) rfl (by omega) (by omega) (fun c10 => ?_) (fun c10 => ?_)
    · refine wa_aload_n (pc' := 24) dX9_setWidth_23 rfl rfl rfl ?_
      refine wa_getfield (pc' := 27) (j := 9) zc_X9 lk_X9_61 dX9_setWidth_24 rfl (by decide) rfl rfl ?_
      refine wa_istore_n (pc' := 28) (ls' := [(2, _), (0, _), (1, _)]) dX9_setWidth_27 rfl rfl (by decide) rfl ?_
      refine wa_aload_n (pc' := 29) dX9_setWidth_28 rfl rfl rfl ?_
      refine wa_iload_n (pc' := 30) dX9_setWidth_29 rfl rfl rfl ?_
      refine wa_putfield (pc' := 33) (j := 9) (w' := (zO _ [_, _, _, _, _, _, _, _, _, _] :: _ :: _ :: _ :: _ :: _ :: _ :: _ :: _ :: _ :: _ :: _ :: _ :: _ :: _ :: _ :: _ :: _ :: _ :: _ :: _ :: _ :: _ :: _ :: _ :: _ :: _ :: _ :: _ :: _ :: _ :: _ :: _ :: _ :: _ :: _ :: _ :: _ :: _ :: _ :: _ :: _ :: _ :: _ :: _ :: _ :: _ :: _ :: _ :: _ :: _ :: _ :: _ :: [])) zc_X9 lk_X9_61 dX9_setWidth_30 rfl (by decide) rfl rfl (Nat.le_of_ble_eq_true rfl) True.intro rfl ?_
      refine wa_iload_n (pc' := 34) dX9_setWidth_33 rfl rfl rfl ?_
      refine wa_iret dX9_setWidth_34 rfl (by decide) (by decide) ?_
      exact zX_e (c := (t, nm, s, D, H, ol, ct, k, y, si, fl, w)) (by rw [cs_setWidth] <;> ((repeat (first | rw [if_pos (by omega)] | rw [if_neg (by omega)])) <;> rfl)) rfl
    · exact wa_throwS (text := "the width is not from 10 to 200") zx_X9_65_69 (by decide) dX9_setWidth_13 dX9_setWidth_16 dX9_setWidth_17 dX9_setWidth_19 dX9_setWidth_22 rfl (by decide) (by decide) (by decide) (by decide) (by exact zX_e (c := (t, nm, s, D, H, ol, ct, k, y, si, fl, wi)) (by rw [cs_setWidth] <;> ((repeat (first | rw [if_pos (by omega)] | rw [if_neg (by omega)])) <;> rfl)) rfl)

def cs_lines : zCS → zP × zCS
  | (t, nm, s, D, H, ol, ct, k, y, si, fl, wi) => (.inl (some (zI (s.2.2.2.1))), (t, nm, s, D, H, ol, ct, k, y, si, fl, wi))
set_option maxRecDepth 10000 in
set_option maxHeartbeats 1000000 in
theorem k_X9_lines (t nm : zRw) (s D : zSh) (H : Nat → zSh) (ol ct : Int) (k : zKd) (y : zLy) (si fl wi : Int) (h : okC (t, nm, s, D, H, ol, ct, k, y, si, fl, wi))   : zMet q_X9_lines 1 0 0 [zR 0] (wC t nm s D H ol ct k y si fl wi) (zX (cs_lines (t, nm, s, D, H, ol, ct, k, y, si, fl, wi)).1 (wCS (cs_lines (t, nm, s, D, H, ol, ct, k, y, si, fl, wi)).2)) := by
  refine z_introF (ls := [(0, _)]) (by decide +kernel) rfl (fun _ _ => rfl) (fun _ _ => Nat.le_of_ble_eq_true rfl) ?_
  obtain ⟨hT9, hnm, hs9, hD9, hH9, hol, hct, hk9, hq9, hsi, hfl, hwi⟩ := id h
  obtain ⟨hT8, hT7, hT6⟩ := id hT9
  obtain ⟨z1, z2, zT1, z4, zF1, zL1⟩ := id hs9.1
  have zNm := hs9.2.1
  have zg := hs9.2.2.1
  have zm := hs9.2.2.2.1
  have hln := hs9.2.2.2.2
  have zQ1 := fun i h1 h2 => (zNm i h1 h2).2.1
  have zS : okS s := ⟨zm, zL1⟩
  refine wa_aload_n (pc' := 1) dX9_lines_0 rfl rfl rfl ?_
  refine wa_getfield (pc' := 4) (j := 2) zc_X9 lk_X9_22 dX9_lines_1 rfl (by decide) rfl rfl ?_
  refine wa_rV (pc' := 7) (k_X8_lineCount s.1 s.2.1 s.2.2.1 s.2.2.2.1 s.2.2.2.2.1 s.2.2.2.2.2.1 s.2.2.2.2.2.2) ok_X8_lineCount lm_X9_112 dX9_lines_4 rfl [5, 6, 7, 8] rfl (by decide) rfl rfl rfl rfl rfl (by decide) (Nat.le_of_ble_eq_true rfl) rfl (by decide) (by decide) rfl ?_
  refine wa_iret dX9_lines_7 rfl (by decide) (by decide) ?_
  exact zX_e (c := (t, nm, s, D, H, ol, ct, k, y, si, fl, wi)) (by rw [cs_lines] <;> ((repeat (first | rw [if_pos (by omega)] | rw [if_neg (by omega)])) <;> rfl)) rfl

def cs_lyrics (l : Int) : zCS → zP × zCS
  | (t, nm, s, D, H, ol, ct, k, y, si, fl, wi) => if ¬ (0 ≤ l ∧ l < s.2.2.2.1) then (.inr eIO, (t, nm, s, D, H, ol, ct, k, y, si, fl, wi)) else (.inl (some (zI (s.2.1 (l + 1) - s.2.1 l))), (t, nm, s, D, H, ol, ct, k, y, si, fl, wi))
set_option maxRecDepth 10000 in
set_option maxHeartbeats 1000000 in
theorem k_X9_lyrics (t nm : zRw) (s D : zSh) (H : Nat → zSh) (ol ct : Int) (k : zKd) (y : zLy) (si fl wi : Int) (h : okC (t, nm, s, D, H, ol, ct, k, y, si, fl, wi)) (l : Int) (hl : zin l)  : zMet q_X9_lyrics 8 1 6 [zR 0, zI l] (wC t nm s D H ol ct k y si fl wi) (zX (cs_lyrics l (t, nm, s, D, H, ol, ct, k, y, si, fl, wi)).1 (wCS (cs_lyrics l (t, nm, s, D, H, ol, ct, k, y, si, fl, wi)).2)) := by
  refine z_introF (ls := [(0, _), (1, _)]) (by decide +kernel) rfl (fun _ _ => rfl) (fun _ _ => Nat.le_of_ble_eq_true rfl) ?_
  obtain ⟨hT9, hnm, hs9, hD9, hH9, hol, hct, hk9, hq9, hsi, hfl, hwi⟩ := id h
  obtain ⟨hT8, hT7, hT6⟩ := id hT9
  obtain ⟨z1, z2, zT1, z4, zF1, zL1⟩ := id hs9.1
  have zNm := hs9.2.1
  have zg := hs9.2.2.1
  have zm := hs9.2.2.2.1
  have hln := hs9.2.2.2.2
  have zQ1 := fun i h1 h2 => (zNm i h1 h2).2.1
  have zS : okS s := ⟨zm, zL1⟩
  refine wa_aload_n (pc' := 1) dX9_lyrics_0 rfl rfl rfl ?_
  refine wa_iload_n (pc' := 2) dX9_lyrics_1 rfl rfl rfl ?_
  refine wa_tR (pc' := 5) (k_X9_requireLine t nm s D H ol ct k y si fl wi (by assumption) l (by omega)) ok_X9_requireLine lm_X9_115 dX9_lyrics_2 rfl (wC_ok _ _ _ _ _ _ _ _ _ _ _ _) rfl rfl rfl rfl rfl (by decide) (Nat.le_of_ble_eq_true rfl) rfl (by decide) (by decide) rfl (fun h2 => by exact zX_e (c := (t, nm, s, D, H, ol, ct, k, y, si, fl, wi)) (by rw [cs_lyrics] <;> ((repeat (first | rw [if_pos (by omega)] | rw [if_neg (by omega)])) <;> rfl)) rfl) (fun h2 => ?_)
  show Wa _ _ _ _ _ _ _ _ [] _ _ _
  refine wa_aload_n (pc' := 6) dX9_lyrics_5 rfl rfl rfl ?_
  refine wa_getfield (pc' := 9) (j := 2) zc_X9 lk_X9_22 dX9_lyrics_6 rfl (by decide) rfl rfl ?_
  refine wa_iload_n (pc' := 10) dX9_lyrics_9 rfl rfl rfl ?_
  refine wa_rV (pc' := 13) (k_X8_lengthOf s.1 s.2.1 s.2.2.1 s.2.2.2.1 s.2.2.2.2.1 s.2.2.2.2.2.1 s.2.2.2.2.2.2 l (by omega)) ok_X8_lengthOf lm_X9_118 dX9_lyrics_10 rfl [5, 6, 7, 8] rfl (by decide) rfl rfl rfl rfl rfl (by decide) (Nat.le_of_ble_eq_true rfl) rfl (by decide) (by decide) rfl ?_
  refine wa_iret dX9_lyrics_13 rfl (by decide) (by decide) ?_
  exact zX_e (c := (t, nm, s, D, H, ol, ct, k, y, si, fl, wi)) (by rw [cs_lyrics] <;> ((repeat (first | rw [if_pos (by omega)] | rw [if_neg (by omega)])) <;> rfl)) rfl

def cs_lyric (l : Int) (c : Int) : zCS → zP × zCS
  | (t, nm, s, D, H, ol, ct, k, y, si, fl, wi) => if ¬ (0 ≤ l ∧ l < s.2.2.2.1) then (.inr eIO, (t, nm, s, D, H, ol, ct, k, y, si, fl, wi)) else if c < 0 ∨ s.2.1 (l + 1) - s.2.1 l ≤ c then (.inr eIO, (t, nm, s, D, H, ol, ct, k, y, si, fl, wi)) else (.inl (some (zI (ltr s.1 s.2.1 l c))), (t, nm, s, D, H, ol, ct, k, y, si, fl, wi))
set_option maxRecDepth 10000 in
set_option maxHeartbeats 1000000 in
theorem k_X9_lyric (t nm : zRw) (s D : zSh) (H : Nat → zSh) (ol ct : Int) (k : zKd) (y : zLy) (si fl wi : Int) (h : okC (t, nm, s, D, H, ol, ct, k, y, si, fl, wi)) (l : Int) (hl : zin l) (c : Int) (hc : zin c)  : zMet q_X9_lyric 8 2 12 [zR 0, zI l, zI c] (wC t nm s D H ol ct k y si fl wi) (zX (cs_lyric l c (t, nm, s, D, H, ol, ct, k, y, si, fl, wi)).1 (wCS (cs_lyric l c (t, nm, s, D, H, ol, ct, k, y, si, fl, wi)).2)) := by
  refine z_introF (ls := [(0, _), (1, _), (2, _)]) (by decide +kernel) rfl (fun _ _ => rfl) (fun _ _ => Nat.le_of_ble_eq_true rfl) ?_
  obtain ⟨hT9, hnm, hs9, hD9, hH9, hol, hct, hk9, hq9, hsi, hfl, hwi⟩ := id h
  obtain ⟨hT8, hT7, hT6⟩ := id hT9
  obtain ⟨z1, z2, zT1, z4, zF1, zL1⟩ := id hs9.1
  have zNm := hs9.2.1
  have zg := hs9.2.2.1
  have zm := hs9.2.2.2.1
  have hln := hs9.2.2.2.2
  have zQ1 := fun i h1 h2 => (zNm i h1 h2).2.1
  have zS : okS s := ⟨zm, zL1⟩
  refine wa_aload_n (pc' := 1) dX9_lyric_0 rfl rfl rfl ?_
  refine wa_iload_n (pc' := 2) dX9_lyric_1 rfl rfl rfl ?_
  refine wa_tR (pc' := 5) (k_X9_requireLine t nm s D H ol ct k y si fl wi (by assumption) l (by omega)) ok_X9_requireLine lm_X9_115 dX9_lyric_2 rfl (wC_ok _ _ _ _ _ _ _ _ _ _ _ _) rfl rfl rfl rfl rfl (by decide) (Nat.le_of_ble_eq_true rfl) rfl (by decide) (by decide) rfl (fun h2 => by exact zX_e (c := (t, nm, s, D, H, ol, ct, k, y, si, fl, wi)) (by rw [cs_lyric] <;> ((repeat (first | rw [if_pos (by omega)] | rw [if_neg (by omega)])) <;> rfl)) rfl) (fun h2 => ?_)
  show Wa _ _ _ _ _ _ _ _ [] _ _ _
  have e1 := zT1 (l + 1) (by omega) (by omega)
  have e2 := zT1 l (by omega) (by omega)
  refine wa_iload_n (pc' := 6) dX9_lyric_5 rfl rfl rfl ?_
  refine wa_if_lt (tgt := 21) (pc' := 9) dX9_lyric_6 (by decide) rfl (by omega) (fun c6 => ?_) (fun c6 => ?_)
  · exact wa_throwS (text := "there is no such column") zx_X9_122_126 (by decide) dX9_lyric_21 dX9_lyric_24 dX9_lyric_25 dX9_lyric_27 dX9_lyric_30 rfl (by decide) (by decide) (by decide) (by decide) (by exact zX_e (c := (t, nm, s, D, H, ol, ct, k, y, si, fl, wi)) (by rw [cs_lyric] <;> ((repeat (first | rw [if_pos (by omega)] | rw [if_neg (by omega)])) <;> rfl)) rfl)
  · refine wa_iload_n (pc' := 10) dX9_lyric_9 rfl rfl rfl ?_
    refine wa_aload_n (pc' := 11) dX9_lyric_10 rfl rfl rfl ?_
    refine wa_getfield (pc' := 14) (j := 2) zc_X9 lk_X9_22 dX9_lyric_11 rfl (by decide) rfl rfl ?_
    refine wa_iload_n (pc' := 15) dX9_lyric_14 rfl rfl rfl ?_
    refine wa_rV (pc' := 18) (k_X8_lengthOf s.1 s.2.1 s.2.2.1 s.2.2.2.1 s.2.2.2.2.1 s.2.2.2.2.2.1 s.2.2.2.2.2.2 l (by omega)) ok_X8_lengthOf lm_X9_118 dX9_lyric_15 rfl [5, 6, 7, 8] rfl (by decide) rfl rfl rfl rfl rfl (by decide) (Nat.le_of_ble_eq_true rfl) rfl (by decide) (by decide) rfl ?_
    refine wa_icmp_lt (tgt := 31) (pc' := 21) dX9_lyric_18 (by decide) rfl (by omega) (by omega) (fun c18 => ?_) (fun c18 => ?_)
    · refine wa_aload_n (pc' := 32) dX9_lyric_31 rfl rfl rfl ?_
      refine wa_getfield (pc' := 35) (j := 2) zc_X9 lk_X9_22 dX9_lyric_32 rfl (by decide) rfl rfl ?_
      refine wa_iload_n (pc' := 36) dX9_lyric_35 rfl rfl rfl ?_
      refine wa_iload_n (pc' := 37) dX9_lyric_36 rfl rfl rfl ?_
      refine wa_rV (pc' := 40) (k_X8_letterAt s.1 s.2.1 s.2.2.1 s.2.2.2.1 s.2.2.2.2.1 s.2.2.2.2.2.1 s.2.2.2.2.2.2 l c (by omega) (by omega) zT1) ok_X8_letterAt lm_X9_127 dX9_lyric_37 rfl [5, 6, 7, 8] rfl (by decide) rfl rfl rfl rfl rfl (by decide) (Nat.le_of_ble_eq_true rfl) rfl (by decide) (by decide) rfl ?_
      refine wa_iret dX9_lyric_40 rfl (by decide) (by decide) ?_
      exact zX_e (c := (t, nm, s, D, H, ol, ct, k, y, si, fl, wi)) (by rw [cs_lyric] <;> ((repeat (first | rw [if_pos (by omega)] | rw [if_neg (by omega)])) <;> rfl)) rfl
    · exact wa_throwS (text := "there is no such column") zx_X9_122_126 (by decide) dX9_lyric_21 dX9_lyric_24 dX9_lyric_25 dX9_lyric_27 dX9_lyric_30 rfl (by decide) (by decide) (by decide) (by decide) (by exact zX_e (c := (t, nm, s, D, H, ol, ct, k, y, si, fl, wi)) (by rw [cs_lyric] <;> ((repeat (first | rw [if_pos (by omega)] | rw [if_neg (by omega)])) <;> rfl)) rfl)

def cs_chords : zCS → zP × zCS
  | (t, nm, s, D, H, ol, ct, k, y, si, fl, wi) => (.inl (some (zI (s.2.2.2.2.1))), (t, nm, s, D, H, ol, ct, k, y, si, fl, wi))
set_option maxRecDepth 10000 in
set_option maxHeartbeats 1000000 in
theorem k_X9_chords (t nm : zRw) (s D : zSh) (H : Nat → zSh) (ol ct : Int) (k : zKd) (y : zLy) (si fl wi : Int) (h : okC (t, nm, s, D, H, ol, ct, k, y, si, fl, wi))   : zMet q_X9_chords 1 0 0 [zR 0] (wC t nm s D H ol ct k y si fl wi) (zX (cs_chords (t, nm, s, D, H, ol, ct, k, y, si, fl, wi)).1 (wCS (cs_chords (t, nm, s, D, H, ol, ct, k, y, si, fl, wi)).2)) := by
  refine z_introF (ls := [(0, _)]) (by decide +kernel) rfl (fun _ _ => rfl) (fun _ _ => Nat.le_of_ble_eq_true rfl) ?_
  obtain ⟨hT9, hnm, hs9, hD9, hH9, hol, hct, hk9, hq9, hsi, hfl, hwi⟩ := id h
  obtain ⟨hT8, hT7, hT6⟩ := id hT9
  obtain ⟨z1, z2, zT1, z4, zF1, zL1⟩ := id hs9.1
  have zNm := hs9.2.1
  have zg := hs9.2.2.1
  have zm := hs9.2.2.2.1
  have hln := hs9.2.2.2.2
  have zQ1 := fun i h1 h2 => (zNm i h1 h2).2.1
  have zS : okS s := ⟨zm, zL1⟩
  refine wa_aload_n (pc' := 1) dX9_chords_0 rfl rfl rfl ?_
  refine wa_getfield (pc' := 4) (j := 2) zc_X9 lk_X9_22 dX9_chords_1 rfl (by decide) rfl rfl ?_
  refine wa_rV (pc' := 7) (k_X8_chordCount s.1 s.2.1 s.2.2.1 s.2.2.2.1 s.2.2.2.2.1 s.2.2.2.2.2.1 s.2.2.2.2.2.2) ok_X8_chordCount lm_X9_107 dX9_chords_4 rfl [5, 6, 7, 8] rfl (by decide) rfl rfl rfl rfl rfl (by decide) (Nat.le_of_ble_eq_true rfl) rfl (by decide) (by decide) rfl ?_
  refine wa_iret dX9_chords_7 rfl (by decide) (by decide) ?_
  exact zX_e (c := (t, nm, s, D, H, ol, ct, k, y, si, fl, wi)) (by rw [cs_chords] <;> ((repeat (first | rw [if_pos (by omega)] | rw [if_neg (by omega)])) <;> rfl)) rfl

def cs_lineOf (i : Int) : zCS → zP × zCS
  | (t, nm, s, D, H, ol, ct, k, y, si, fl, wi) => if ¬ (0 ≤ i ∧ i < s.2.2.2.2.1) then (.inr eIO, (t, nm, s, D, H, ol, ct, k, y, si, fl, wi)) else (.inl (some (zI (s.2.2.1 (i * 5 + 0)))), (t, nm, s, D, H, ol, ct, k, y, si, fl, wi))
set_option maxRecDepth 10000 in
set_option maxHeartbeats 1000000 in
theorem k_X9_lineOf (t nm : zRw) (s D : zSh) (H : Nat → zSh) (ol ct : Int) (k : zKd) (y : zLy) (si fl wi : Int) (h : okC (t, nm, s, D, H, ol, ct, k, y, si, fl, wi)) (i : Int) (hi : zin i)  : zMet q_X9_lineOf 8 1 6 [zR 0, zI i] (wC t nm s D H ol ct k y si fl wi) (zX (cs_lineOf i (t, nm, s, D, H, ol, ct, k, y, si, fl, wi)).1 (wCS (cs_lineOf i (t, nm, s, D, H, ol, ct, k, y, si, fl, wi)).2)) := by
  refine z_introF (ls := [(0, _), (1, _)]) (by decide +kernel) rfl (fun _ _ => rfl) (fun _ _ => Nat.le_of_ble_eq_true rfl) ?_
  obtain ⟨hT9, hnm, hs9, hD9, hH9, hol, hct, hk9, hq9, hsi, hfl, hwi⟩ := id h
  obtain ⟨hT8, hT7, hT6⟩ := id hT9
  obtain ⟨z1, z2, zT1, z4, zF1, zL1⟩ := id hs9.1
  have zNm := hs9.2.1
  have zg := hs9.2.2.1
  have zm := hs9.2.2.2.1
  have hln := hs9.2.2.2.2
  have zQ1 := fun i h1 h2 => (zNm i h1 h2).2.1
  have zS : okS s := ⟨zm, zL1⟩
  refine wa_aload_n (pc' := 1) dX9_lineOf_0 rfl rfl rfl ?_
  refine wa_iload_n (pc' := 2) dX9_lineOf_1 rfl rfl rfl ?_
  refine wa_tR (pc' := 5) (k_X9_requireChord t nm s D H ol ct k y si fl wi (by assumption) i (by omega)) ok_X9_requireChord lm_X9_131 dX9_lineOf_2 rfl (wC_ok _ _ _ _ _ _ _ _ _ _ _ _) rfl rfl rfl rfl rfl (by decide) (Nat.le_of_ble_eq_true rfl) rfl (by decide) (by decide) rfl (fun h2 => by exact zX_e (c := (t, nm, s, D, H, ol, ct, k, y, si, fl, wi)) (by rw [cs_lineOf] <;> ((repeat (first | rw [if_pos (by omega)] | rw [if_neg (by omega)])) <;> rfl)) rfl) (fun h2 => ?_)
  show Wa _ _ _ _ _ _ _ _ [] _ _ _
  refine wa_aload_n (pc' := 6) dX9_lineOf_5 rfl rfl rfl ?_
  refine wa_getfield (pc' := 9) (j := 2) zc_X9 lk_X9_22 dX9_lineOf_6 rfl (by decide) rfl rfl ?_
  refine wa_iload_n (pc' := 10) dX9_lineOf_9 rfl rfl rfl ?_
  refine wa_iconst (pc' := 11) dX9_lineOf_10 rfl ?_
  refine wa_rV (pc' := 14) (k_X8_get s.1 s.2.1 s.2.2.1 s.2.2.2.1 s.2.2.2.2.1 s.2.2.2.2.2.1 s.2.2.2.2.2.2 i 0 (by omega) (by omega)) ok_X8_get lm_X9_134 dX9_lineOf_11 rfl [5, 6, 7, 8] rfl (by decide) rfl rfl rfl rfl rfl (by decide) (Nat.le_of_ble_eq_true rfl) rfl (by decide) (by decide) rfl ?_
  refine wa_iret dX9_lineOf_14 rfl (by decide) (by decide) ?_
  exact zX_e (c := (t, nm, s, D, H, ol, ct, k, y, si, fl, wi)) (by rw [cs_lineOf] <;> ((repeat (first | rw [if_pos (by omega)] | rw [if_neg (by omega)])) <;> rfl)) rfl

def cs_columnOf (i : Int) : zCS → zP × zCS
  | (t, nm, s, D, H, ol, ct, k, y, si, fl, wi) => if ¬ (0 ≤ i ∧ i < s.2.2.2.2.1) then (.inr eIO, (t, nm, s, D, H, ol, ct, k, y, si, fl, wi)) else (.inl (some (zI (s.2.2.1 (i * 5 + 1)))), (t, nm, s, D, H, ol, ct, k, y, si, fl, wi))
set_option maxRecDepth 10000 in
set_option maxHeartbeats 1000000 in
theorem k_X9_columnOf (t nm : zRw) (s D : zSh) (H : Nat → zSh) (ol ct : Int) (k : zKd) (y : zLy) (si fl wi : Int) (h : okC (t, nm, s, D, H, ol, ct, k, y, si, fl, wi)) (i : Int) (hi : zin i)  : zMet q_X9_columnOf 8 1 6 [zR 0, zI i] (wC t nm s D H ol ct k y si fl wi) (zX (cs_columnOf i (t, nm, s, D, H, ol, ct, k, y, si, fl, wi)).1 (wCS (cs_columnOf i (t, nm, s, D, H, ol, ct, k, y, si, fl, wi)).2)) := by
  refine z_introF (ls := [(0, _), (1, _)]) (by decide +kernel) rfl (fun _ _ => rfl) (fun _ _ => Nat.le_of_ble_eq_true rfl) ?_
  obtain ⟨hT9, hnm, hs9, hD9, hH9, hol, hct, hk9, hq9, hsi, hfl, hwi⟩ := id h
  obtain ⟨hT8, hT7, hT6⟩ := id hT9
  obtain ⟨z1, z2, zT1, z4, zF1, zL1⟩ := id hs9.1
  have zNm := hs9.2.1
  have zg := hs9.2.2.1
  have zm := hs9.2.2.2.1
  have hln := hs9.2.2.2.2
  have zQ1 := fun i h1 h2 => (zNm i h1 h2).2.1
  have zS : okS s := ⟨zm, zL1⟩
  refine wa_aload_n (pc' := 1) dX9_columnOf_0 rfl rfl rfl ?_
  refine wa_iload_n (pc' := 2) dX9_columnOf_1 rfl rfl rfl ?_
  refine wa_tR (pc' := 5) (k_X9_requireChord t nm s D H ol ct k y si fl wi (by assumption) i (by omega)) ok_X9_requireChord lm_X9_131 dX9_columnOf_2 rfl (wC_ok _ _ _ _ _ _ _ _ _ _ _ _) rfl rfl rfl rfl rfl (by decide) (Nat.le_of_ble_eq_true rfl) rfl (by decide) (by decide) rfl (fun h2 => by exact zX_e (c := (t, nm, s, D, H, ol, ct, k, y, si, fl, wi)) (by rw [cs_columnOf] <;> ((repeat (first | rw [if_pos (by omega)] | rw [if_neg (by omega)])) <;> rfl)) rfl) (fun h2 => ?_)
  show Wa _ _ _ _ _ _ _ _ [] _ _ _
  refine wa_aload_n (pc' := 6) dX9_columnOf_5 rfl rfl rfl ?_
  refine wa_getfield (pc' := 9) (j := 2) zc_X9 lk_X9_22 dX9_columnOf_6 rfl (by decide) rfl rfl ?_
  refine wa_iload_n (pc' := 10) dX9_columnOf_9 rfl rfl rfl ?_
  refine wa_iconst (pc' := 11) dX9_columnOf_10 rfl ?_
  refine wa_rV (pc' := 14) (k_X8_get s.1 s.2.1 s.2.2.1 s.2.2.2.1 s.2.2.2.2.1 s.2.2.2.2.2.1 s.2.2.2.2.2.2 i 1 (by omega) (by omega)) ok_X8_get lm_X9_134 dX9_columnOf_11 rfl [5, 6, 7, 8] rfl (by decide) rfl rfl rfl rfl rfl (by decide) (Nat.le_of_ble_eq_true rfl) rfl (by decide) (by decide) rfl ?_
  refine wa_iret dX9_columnOf_14 rfl (by decide) (by decide) ?_
  exact zX_e (c := (t, nm, s, D, H, ol, ct, k, y, si, fl, wi)) (by rw [cs_columnOf] <;> ((repeat (first | rw [if_pos (by omega)] | rw [if_neg (by omega)])) <;> rfl)) rfl

def cs_rootOf (i : Int) : zCS → zP × zCS
  | (t, nm, s, D, H, ol, ct, k, y, si, fl, wi) => if ¬ (0 ≤ i ∧ i < s.2.2.2.2.1) then (.inr eIO, (t, nm, s, D, H, ol, ct, k, y, si, fl, wi)) else (.inl (some (zI (s.2.2.1 (i * 5 + 2)))), (t, nm, s, D, H, ol, ct, k, y, si, fl, wi))
set_option maxRecDepth 10000 in
set_option maxHeartbeats 1000000 in
theorem k_X9_rootOf (t nm : zRw) (s D : zSh) (H : Nat → zSh) (ol ct : Int) (k : zKd) (y : zLy) (si fl wi : Int) (h : okC (t, nm, s, D, H, ol, ct, k, y, si, fl, wi)) (i : Int) (hi : zin i)  : zMet q_X9_rootOf 8 1 6 [zR 0, zI i] (wC t nm s D H ol ct k y si fl wi) (zX (cs_rootOf i (t, nm, s, D, H, ol, ct, k, y, si, fl, wi)).1 (wCS (cs_rootOf i (t, nm, s, D, H, ol, ct, k, y, si, fl, wi)).2)) := by
  refine z_introF (ls := [(0, _), (1, _)]) (by decide +kernel) rfl (fun _ _ => rfl) (fun _ _ => Nat.le_of_ble_eq_true rfl) ?_
  obtain ⟨hT9, hnm, hs9, hD9, hH9, hol, hct, hk9, hq9, hsi, hfl, hwi⟩ := id h
  obtain ⟨hT8, hT7, hT6⟩ := id hT9
  obtain ⟨z1, z2, zT1, z4, zF1, zL1⟩ := id hs9.1
  have zNm := hs9.2.1
  have zg := hs9.2.2.1
  have zm := hs9.2.2.2.1
  have hln := hs9.2.2.2.2
  have zQ1 := fun i h1 h2 => (zNm i h1 h2).2.1
  have zS : okS s := ⟨zm, zL1⟩
  refine wa_aload_n (pc' := 1) dX9_rootOf_0 rfl rfl rfl ?_
  refine wa_iload_n (pc' := 2) dX9_rootOf_1 rfl rfl rfl ?_
  refine wa_tR (pc' := 5) (k_X9_requireChord t nm s D H ol ct k y si fl wi (by assumption) i (by omega)) ok_X9_requireChord lm_X9_131 dX9_rootOf_2 rfl (wC_ok _ _ _ _ _ _ _ _ _ _ _ _) rfl rfl rfl rfl rfl (by decide) (Nat.le_of_ble_eq_true rfl) rfl (by decide) (by decide) rfl (fun h2 => by exact zX_e (c := (t, nm, s, D, H, ol, ct, k, y, si, fl, wi)) (by rw [cs_rootOf] <;> ((repeat (first | rw [if_pos (by omega)] | rw [if_neg (by omega)])) <;> rfl)) rfl) (fun h2 => ?_)
  show Wa _ _ _ _ _ _ _ _ [] _ _ _
  refine wa_aload_n (pc' := 6) dX9_rootOf_5 rfl rfl rfl ?_
  refine wa_getfield (pc' := 9) (j := 2) zc_X9 lk_X9_22 dX9_rootOf_6 rfl (by decide) rfl rfl ?_
  refine wa_iload_n (pc' := 10) dX9_rootOf_9 rfl rfl rfl ?_
  refine wa_iconst (pc' := 11) dX9_rootOf_10 rfl ?_
  refine wa_rV (pc' := 14) (k_X8_get s.1 s.2.1 s.2.2.1 s.2.2.2.1 s.2.2.2.2.1 s.2.2.2.2.2.1 s.2.2.2.2.2.2 i 2 (by omega) (by omega)) ok_X8_get lm_X9_134 dX9_rootOf_11 rfl [5, 6, 7, 8] rfl (by decide) rfl rfl rfl rfl rfl (by decide) (Nat.le_of_ble_eq_true rfl) rfl (by decide) (by decide) rfl ?_
  refine wa_iret dX9_rootOf_14 rfl (by decide) (by decide) ?_
  exact zX_e (c := (t, nm, s, D, H, ol, ct, k, y, si, fl, wi)) (by rw [cs_rootOf] <;> ((repeat (first | rw [if_pos (by omega)] | rw [if_neg (by omega)])) <;> rfl)) rfl

def cs_qualityOf (i : Int) : zCS → zP × zCS
  | (t, nm, s, D, H, ol, ct, k, y, si, fl, wi) => if ¬ (0 ≤ i ∧ i < s.2.2.2.2.1) then (.inr eIO, (t, nm, s, D, H, ol, ct, k, y, si, fl, wi)) else (.inl (some (zI (s.2.2.1 (i * 5 + 3)))), (t, nm, s, D, H, ol, ct, k, y, si, fl, wi))
set_option maxRecDepth 10000 in
set_option maxHeartbeats 1000000 in
theorem k_X9_qualityOf (t nm : zRw) (s D : zSh) (H : Nat → zSh) (ol ct : Int) (k : zKd) (y : zLy) (si fl wi : Int) (h : okC (t, nm, s, D, H, ol, ct, k, y, si, fl, wi)) (i : Int) (hi : zin i)  : zMet q_X9_qualityOf 8 1 6 [zR 0, zI i] (wC t nm s D H ol ct k y si fl wi) (zX (cs_qualityOf i (t, nm, s, D, H, ol, ct, k, y, si, fl, wi)).1 (wCS (cs_qualityOf i (t, nm, s, D, H, ol, ct, k, y, si, fl, wi)).2)) := by
  refine z_introF (ls := [(0, _), (1, _)]) (by decide +kernel) rfl (fun _ _ => rfl) (fun _ _ => Nat.le_of_ble_eq_true rfl) ?_
  obtain ⟨hT9, hnm, hs9, hD9, hH9, hol, hct, hk9, hq9, hsi, hfl, hwi⟩ := id h
  obtain ⟨hT8, hT7, hT6⟩ := id hT9
  obtain ⟨z1, z2, zT1, z4, zF1, zL1⟩ := id hs9.1
  have zNm := hs9.2.1
  have zg := hs9.2.2.1
  have zm := hs9.2.2.2.1
  have hln := hs9.2.2.2.2
  have zQ1 := fun i h1 h2 => (zNm i h1 h2).2.1
  have zS : okS s := ⟨zm, zL1⟩
  refine wa_aload_n (pc' := 1) dX9_qualityOf_0 rfl rfl rfl ?_
  refine wa_iload_n (pc' := 2) dX9_qualityOf_1 rfl rfl rfl ?_
  refine wa_tR (pc' := 5) (k_X9_requireChord t nm s D H ol ct k y si fl wi (by assumption) i (by omega)) ok_X9_requireChord lm_X9_131 dX9_qualityOf_2 rfl (wC_ok _ _ _ _ _ _ _ _ _ _ _ _) rfl rfl rfl rfl rfl (by decide) (Nat.le_of_ble_eq_true rfl) rfl (by decide) (by decide) rfl (fun h2 => by exact zX_e (c := (t, nm, s, D, H, ol, ct, k, y, si, fl, wi)) (by rw [cs_qualityOf] <;> ((repeat (first | rw [if_pos (by omega)] | rw [if_neg (by omega)])) <;> rfl)) rfl) (fun h2 => ?_)
  show Wa _ _ _ _ _ _ _ _ [] _ _ _
  refine wa_aload_n (pc' := 6) dX9_qualityOf_5 rfl rfl rfl ?_
  refine wa_getfield (pc' := 9) (j := 2) zc_X9 lk_X9_22 dX9_qualityOf_6 rfl (by decide) rfl rfl ?_
  refine wa_iload_n (pc' := 10) dX9_qualityOf_9 rfl rfl rfl ?_
  refine wa_iconst (pc' := 11) dX9_qualityOf_10 rfl ?_
  refine wa_rV (pc' := 14) (k_X8_get s.1 s.2.1 s.2.2.1 s.2.2.2.1 s.2.2.2.2.1 s.2.2.2.2.2.1 s.2.2.2.2.2.2 i 3 (by omega) (by omega)) ok_X8_get lm_X9_134 dX9_qualityOf_11 rfl [5, 6, 7, 8] rfl (by decide) rfl rfl rfl rfl rfl (by decide) (Nat.le_of_ble_eq_true rfl) rfl (by decide) (by decide) rfl ?_
  refine wa_iret dX9_qualityOf_14 rfl (by decide) (by decide) ?_
  exact zX_e (c := (t, nm, s, D, H, ol, ct, k, y, si, fl, wi)) (by rw [cs_qualityOf] <;> ((repeat (first | rw [if_pos (by omega)] | rw [if_neg (by omega)])) <;> rfl)) rfl

def cs_bassOf (i : Int) : zCS → zP × zCS
  | (t, nm, s, D, H, ol, ct, k, y, si, fl, wi) => if ¬ (0 ≤ i ∧ i < s.2.2.2.2.1) then (.inr eIO, (t, nm, s, D, H, ol, ct, k, y, si, fl, wi)) else (.inl (some (zI (s.2.2.1 (i * 5 + 4)))), (t, nm, s, D, H, ol, ct, k, y, si, fl, wi))
set_option maxRecDepth 10000 in
set_option maxHeartbeats 1000000 in
theorem k_X9_bassOf (t nm : zRw) (s D : zSh) (H : Nat → zSh) (ol ct : Int) (k : zKd) (y : zLy) (si fl wi : Int) (h : okC (t, nm, s, D, H, ol, ct, k, y, si, fl, wi)) (i : Int) (hi : zin i)  : zMet q_X9_bassOf 8 1 6 [zR 0, zI i] (wC t nm s D H ol ct k y si fl wi) (zX (cs_bassOf i (t, nm, s, D, H, ol, ct, k, y, si, fl, wi)).1 (wCS (cs_bassOf i (t, nm, s, D, H, ol, ct, k, y, si, fl, wi)).2)) := by
  refine z_introF (ls := [(0, _), (1, _)]) (by decide +kernel) rfl (fun _ _ => rfl) (fun _ _ => Nat.le_of_ble_eq_true rfl) ?_
  obtain ⟨hT9, hnm, hs9, hD9, hH9, hol, hct, hk9, hq9, hsi, hfl, hwi⟩ := id h
  obtain ⟨hT8, hT7, hT6⟩ := id hT9
  obtain ⟨z1, z2, zT1, z4, zF1, zL1⟩ := id hs9.1
  have zNm := hs9.2.1
  have zg := hs9.2.2.1
  have zm := hs9.2.2.2.1
  have hln := hs9.2.2.2.2
  have zQ1 := fun i h1 h2 => (zNm i h1 h2).2.1
  have zS : okS s := ⟨zm, zL1⟩
  refine wa_aload_n (pc' := 1) dX9_bassOf_0 rfl rfl rfl ?_
  refine wa_iload_n (pc' := 2) dX9_bassOf_1 rfl rfl rfl ?_
  refine wa_tR (pc' := 5) (k_X9_requireChord t nm s D H ol ct k y si fl wi (by assumption) i (by omega)) ok_X9_requireChord lm_X9_131 dX9_bassOf_2 rfl (wC_ok _ _ _ _ _ _ _ _ _ _ _ _) rfl rfl rfl rfl rfl (by decide) (Nat.le_of_ble_eq_true rfl) rfl (by decide) (by decide) rfl (fun h2 => by exact zX_e (c := (t, nm, s, D, H, ol, ct, k, y, si, fl, wi)) (by rw [cs_bassOf] <;> ((repeat (first | rw [if_pos (by omega)] | rw [if_neg (by omega)])) <;> rfl)) rfl) (fun h2 => ?_)
  show Wa _ _ _ _ _ _ _ _ [] _ _ _
  refine wa_aload_n (pc' := 6) dX9_bassOf_5 rfl rfl rfl ?_
  refine wa_getfield (pc' := 9) (j := 2) zc_X9 lk_X9_22 dX9_bassOf_6 rfl (by decide) rfl rfl ?_
  refine wa_iload_n (pc' := 10) dX9_bassOf_9 rfl rfl rfl ?_
  refine wa_iconst (pc' := 11) dX9_bassOf_10 rfl ?_
  refine wa_rV (pc' := 14) (k_X8_get s.1 s.2.1 s.2.2.1 s.2.2.2.1 s.2.2.2.2.1 s.2.2.2.2.2.1 s.2.2.2.2.2.2 i 4 (by omega) (by omega)) ok_X8_get lm_X9_134 dX9_bassOf_11 rfl [5, 6, 7, 8] rfl (by decide) rfl rfl rfl rfl rfl (by decide) (Nat.le_of_ble_eq_true rfl) rfl (by decide) (by decide) rfl ?_
  refine wa_iret dX9_bassOf_14 rfl (by decide) (by decide) ?_
  exact zX_e (c := (t, nm, s, D, H, ol, ct, k, y, si, fl, wi)) (by rw [cs_bassOf] <;> ((repeat (first | rw [if_pos (by omega)] | rw [if_neg (by omega)])) <;> rfl)) rfl

def cs_nameChar (i : Int) (c : Int) : zCS → zP × zCS
  | (t, nm, s, D, H, ol, ct, k, y, si, fl, wi) => if ¬ (0 ≤ i ∧ i < s.2.2.2.2.1) then (.inr eIO, (t, nm, s, D, H, ol, ct, k, y, si, fl, wi)) else if c < 0 then (.inr eIO, (t, nm, s, D, H, ol, ct, k, y, si, fl, wi)) else (.inl (some (zI (if 0 ≤ c ∧ c < (rL (rC nm 0) (nameL (s.2.2.1 (i * 5 + 2)) (s.2.2.1 (i * 5 + 3)) (s.2.2.1 (i * 5 + 4)))).1 then (rL (rC nm 0) (nameL (s.2.2.1 (i * 5 + 2)) (s.2.2.1 (i * 5 + 3)) (s.2.2.1 (i * 5 + 4)))).2 c else -1))), (t, rL (rC nm 0) (nameL (s.2.2.1 (i * 5 + 2)) (s.2.2.1 (i * 5 + 3)) (s.2.2.1 (i * 5 + 4))), s, D, H, ol, ct, k, y, si, fl, wi))
set_option maxRecDepth 10000 in
set_option maxHeartbeats 1000000 in
theorem k_X9_nameChar (t nm : zRw) (s D : zSh) (H : Nat → zSh) (ol ct : Int) (k : zKd) (y : zLy) (si fl wi : Int) (h : okC (t, nm, s, D, H, ol, ct, k, y, si, fl, wi)) (i : Int) (hi : zin i) (c : Int) (hc : zin c)  : zMet q_X9_nameChar 8 2 12 [zR 0, zI i, zI c] (wC t nm s D H ol ct k y si fl wi) (zX (cs_nameChar i c (t, nm, s, D, H, ol, ct, k, y, si, fl, wi)).1 (wCS (cs_nameChar i c (t, nm, s, D, H, ol, ct, k, y, si, fl, wi)).2)) := by
  refine z_introF (ls := [(0, _), (1, _), (2, _)]) (by decide +kernel) rfl (fun _ _ => rfl) (fun _ _ => Nat.le_of_ble_eq_true rfl) ?_
  obtain ⟨hT9, hnm, hs9, hD9, hH9, hol, hct, hk9, hq9, hsi, hfl, hwi⟩ := id h
  obtain ⟨hT8, hT7, hT6⟩ := id hT9
  obtain ⟨z1, z2, zT1, z4, zF1, zL1⟩ := id hs9.1
  have zNm := hs9.2.1
  have zg := hs9.2.2.1
  have zm := hs9.2.2.2.1
  have hln := hs9.2.2.2.2
  have zQ1 := fun i h1 h2 => (zNm i h1 h2).2.1
  have zS : okS s := ⟨zm, zL1⟩
  refine wa_aload_n (pc' := 1) dX9_nameChar_0 rfl rfl rfl ?_
  refine wa_iload_n (pc' := 2) dX9_nameChar_1 rfl rfl rfl ?_
  refine wa_tR (pc' := 5) (k_X9_requireChord t nm s D H ol ct k y si fl wi (by assumption) i (by omega)) ok_X9_requireChord lm_X9_131 dX9_nameChar_2 rfl (wC_ok _ _ _ _ _ _ _ _ _ _ _ _) rfl rfl rfl rfl rfl (by decide) (Nat.le_of_ble_eq_true rfl) rfl (by decide) (by decide) rfl (fun h2 => by exact zX_e (c := (t, nm, s, D, H, ol, ct, k, y, si, fl, wi)) (by rw [cs_nameChar] <;> ((repeat (first | rw [if_pos (by omega)] | rw [if_neg (by omega)])) <;> rfl)) rfl) (fun h2 => ?_)
  show Wa _ _ _ _ _ _ _ _ [] _ _ _
  refine wa_aload_n (pc' := 6) dX9_nameChar_5 rfl rfl rfl ?_
  refine wa_iload_n (pc' := 7) dX9_nameChar_6 rfl rfl rfl ?_
  refine wa_tR (pc' := 10) (k_X9_requireIndex t nm s D H ol ct k y si fl wi (by assumption) c (by omega)) ok_X9_requireIndex lm_X9_137 dX9_nameChar_7 rfl (wC_ok _ _ _ _ _ _ _ _ _ _ _ _) rfl rfl rfl rfl rfl (by decide) (Nat.le_of_ble_eq_true rfl) rfl (by decide) (by decide) rfl (fun h7 => by exact zX_e (c := (t, nm, s, D, H, ol, ct, k, y, si, fl, wi)) (by rw [cs_nameChar] <;> ((repeat (first | rw [if_pos (by omega)] | rw [if_neg (by omega)])) <;> rfl)) rfl) (fun h7 => ?_)
  show Wa _ _ _ _ _ _ _ _ [] _ _ _
  have h2 := h2
  obtain ⟨n1, n2, n3⟩ := zNm i (by omega) (by omega)
  have n4 := nameL_n n1 n2 n3
  have n5 := rC_0 (r := nm) hnm.1
  have n6 := rL_len (rC nm 0) (nameL (s.2.2.1 (i * 5 + 2)) (s.2.2.1 (i * 5 + 3)) (s.2.2.1 (i * 5 + 4)))
  refine wa_aload_n (pc' := 11) dX9_nameChar_10 rfl rfl rfl ?_
  refine wa_getfield (pc' := 14) (j := 1) zc_X9 lk_X9_16 dX9_nameChar_11 rfl (by decide) rfl rfl ?_
  refine wa_iconst (pc' := 15) dX9_nameChar_14 rfl ?_
  refine wa_dV (pc' := 18) (w' := (_ :: _ :: _ :: zO _ [_, _] :: zA _ _ _ :: _ :: _ :: _ :: _ :: _ :: _ :: _ :: _ :: _ :: _ :: _ :: _ :: _ :: _ :: _ :: _ :: _ :: _ :: _ :: _ :: _ :: _ :: _ :: _ :: _ :: _ :: _ :: _ :: _ :: _ :: _ :: _ :: _ :: _ :: _ :: _ :: _ :: _ :: _ :: _ :: _ :: _ :: _ :: _ :: _ :: _ :: _ :: _ :: [])) (k_X7_cutTo nm (by omega) (by omega) 0 (by omega)) ok_X7_cutTo lm_X9_85 dX9_nameChar_15 rfl [3, 4] rfl (by decide) rfl rfl rfl rfl rfl (by decide) (Nat.le_of_ble_eq_true rfl) rfl (by decide) (by decide) rfl rfl rfl ?_
  refine wa_aload_n (pc' := 19) dX9_nameChar_18 rfl rfl rfl ?_
  refine wa_getfield (pc' := 22) (j := 2) zc_X9 lk_X9_22 dX9_nameChar_19 rfl (by decide) rfl rfl ?_
  refine wa_iload_n (pc' := 23) dX9_nameChar_22 rfl rfl rfl ?_
  refine wa_aload_n (pc' := 24) dX9_nameChar_23 rfl rfl rfl ?_
  refine wa_getfield (pc' := 27) (j := 1) zc_X9 lk_X9_16 dX9_nameChar_24 rfl (by decide) rfl rfl ?_
  refine wa_dV (pc' := 30) (w' := (_ :: _ :: _ :: zO _ [_, _] :: zA _ _ _ :: zO _ [_, _, _, _, _, _, _] :: zA _ _ _ :: zA _ _ _ :: zA _ _ _ :: _ :: _ :: _ :: _ :: _ :: _ :: _ :: _ :: _ :: _ :: _ :: _ :: _ :: _ :: _ :: _ :: _ :: _ :: _ :: _ :: _ :: _ :: _ :: _ :: _ :: _ :: _ :: _ :: _ :: _ :: _ :: _ :: _ :: _ :: _ :: _ :: _ :: _ :: _ :: _ :: _ :: _ :: _ :: _ :: [])) (k_X8_writeName s.1 s.2.1 s.2.2.1 s.2.2.2.1 s.2.2.2.2.1 s.2.2.2.2.2.1 s.2.2.2.2.2.2 (rC nm 0) i (by omega) (zF1 _ (by omega) (by omega)) (n2) (zF1 _ (by omega) (by omega)) (by omega) (by omega)) ok_X8_writeName lm_X9_140 dX9_nameChar_27 rfl [5, 6, 7, 8, 3, 4] rfl (by decide) rfl rfl rfl rfl rfl (by decide) (Nat.le_of_ble_eq_true rfl) rfl (by decide) (by decide) rfl rfl rfl ?_
  refine wa_aload_n (pc' := 31) dX9_nameChar_30 rfl rfl rfl ?_
  refine wa_getfield (pc' := 34) (j := 1) zc_X9 lk_X9_16 dX9_nameChar_31 rfl (by decide) rfl rfl ?_
  refine wa_iload_n (pc' := 35) dX9_nameChar_34 rfl rfl rfl ?_
  refine wa_rV (pc' := 38) (k_X7_at (rL (rC nm 0) (nameL (s.2.2.1 (i * 5 + 2)) (s.2.2.1 (i * 5 + 3)) (s.2.2.1 (i * 5 + 4)))) (by omega) (by omega) c (by omega)) ok_X7_at lm_X9_144 dX9_nameChar_35 rfl [3, 4] rfl (by decide) rfl rfl rfl rfl rfl (by decide) (Nat.le_of_ble_eq_true rfl) rfl (by decide) (by decide) rfl ?_
  refine wa_iret dX9_nameChar_38 rfl (by decide) (by decide) ?_
  exact zX_e (c := (t, rL (rC nm 0) (nameL (s.2.2.1 (i * 5 + 2)) (s.2.2.1 (i * 5 + 3)) (s.2.2.1 (i * 5 + 4))), s, D, H, ol, ct, k, y, si, fl, wi)) (by rw [cs_nameChar] <;> ((repeat (first | rw [if_pos (by omega)] | rw [if_neg (by omega)])) <;> rfl)) rfl

def cs_addChord (l : Int) (c : Int) : zCS → zP × zCS
  | (t, nm, s, D, H, ol, ct, k, y, si, fl, wi) => if ¬ (0 ≤ l ∧ l < s.2.2.2.1) then (.inr eIO, (t, nm, s, D, H, ol, ct, k, y, si, fl, wi)) else if c < 0 ∨ s.2.1 (l + 1) - s.2.1 l < c then (.inr eIO, (t, nm, s, D, H, ol, ct, k, y, si, fl, wi)) else if 40 ≤ s.2.2.2.2.1 then (.inr eIS, (t, nm, s, D, H, ol, ct, k, y, si, fl, wi)) else if ¬ ((if (chR (gT t) 0 k.2.2.1).2.2.2.2 = 1 ∧ (chR (gT t) 0 k.2.2.1).1 = t.1 then -1 else (chR (gT t) 0 k.2.2.1).1) = -1) then (.inl (some (zI (-1 - (if (chR (gT t) 0 k.2.2.1).2.2.2.2 = 1 ∧ (chR (gT t) 0 k.2.2.1).1 = t.1 then -1 else (chR (gT t) 0 k.2.2.1).1)))), (t, nm, s, D, H, ol, ct, (chR (gT t) 0 k.2.2.1), y, si, fl, wi)) else (.inl (some (zI ((cUT s.2.2.1 l c s.2.2.2.2.1.toNat 0)))), (rC t 0, nm, (s.1, s.2.1, insF s.2.2.1 (cUT s.2.2.1 l c s.2.2.2.2.1.toNat 0) s.2.2.2.2.1 l c (chR (gT t) 0 k.2.2.1).2.1 (chR (gT t) 0 k.2.2.1).2.2.1 (chR (gT t) 0 k.2.2.1).2.2.2.1, s.2.2.2.1, s.2.2.2.2.1 + 1, s.2.2.2.2.2.1, s.2.2.2.2.2.2), D, hup H ((ol + ct) % 8).toNat s, (if ct < 8 then ol else (ol + 1) % 8), (if ct < 8 then ct + 1 else ct), (chR (gT t) 0 k.2.2.1), y, si, fl, wi))
set_option maxRecDepth 10000 in
set_option maxHeartbeats 1000000 in
theorem k_X9_addChord (t nm : zRw) (s D : zSh) (H : Nat → zSh) (ol ct : Int) (k : zKd) (y : zLy) (si fl wi : Int) (h : okC (t, nm, s, D, H, ol, ct, k, y, si, fl, wi)) (l : Int) (hl : zin l) (c : Int) (hc : zin c)  : zMet q_X9_addChord 8 3 18 [zR 0, zI l, zI c] (wC t nm s D H ol ct k y si fl wi) (zX (cs_addChord l c (t, nm, s, D, H, ol, ct, k, y, si, fl, wi)).1 (wCS (cs_addChord l c (t, nm, s, D, H, ol, ct, k, y, si, fl, wi)).2)) := by
  refine z_introF (ls := [(0, _), (1, _), (2, _)]) (by decide +kernel) rfl (fun _ _ => rfl) (fun _ _ => Nat.le_of_ble_eq_true rfl) ?_
  obtain ⟨hT9, hnm, hs9, hD9, hH9, hol, hct, hk9, hq9, hsi, hfl, hwi⟩ := id h
  obtain ⟨hT8, hT7, hT6⟩ := id hT9
  obtain ⟨z1, z2, zT1, z4, zF1, zL1⟩ := id hs9.1
  have zNm := hs9.2.1
  have zg := hs9.2.2.1
  have zm := hs9.2.2.2.1
  have hln := hs9.2.2.2.2
  have zQ1 := fun i h1 h2 => (zNm i h1 h2).2.1
  have zS : okS s := ⟨zm, zL1⟩
  refine wa_aload_n (pc' := 1) dX9_addChord_0 rfl rfl rfl ?_
  refine wa_iload_n (pc' := 2) dX9_addChord_1 rfl rfl rfl ?_
  refine wa_tR (pc' := 5) (k_X9_requireLine t nm s D H ol ct k y si fl wi (by assumption) l (by omega)) ok_X9_requireLine lm_X9_115 dX9_addChord_2 rfl (wC_ok _ _ _ _ _ _ _ _ _ _ _ _) rfl rfl rfl rfl rfl (by decide) (Nat.le_of_ble_eq_true rfl) rfl (by decide) (by decide) rfl (fun h2 => by exact zX_e (c := (t, nm, s, D, H, ol, ct, k, y, si, fl, wi)) (by rw [cs_addChord] <;> ((repeat (first | rw [if_pos (by omega)] | rw [if_neg (by omega)])) <;> rfl)) rfl) (fun h2 => ?_)
  show Wa _ _ _ _ _ _ _ _ [] _ _ _
  refine wa_aload_n (pc' := 6) dX9_addChord_5 rfl rfl rfl ?_
  refine wa_iload_n (pc' := 7) dX9_addChord_6 rfl rfl rfl ?_
  refine wa_iload_n (pc' := 8) dX9_addChord_7 rfl rfl rfl ?_
  refine wa_tR (pc' := 11) (k_X9_requireChordColumn t nm s D H ol ct k y si fl wi (by assumption) l (by omega) c (by omega)) ok_X9_requireChordColumn lm_X9_163 dX9_addChord_8 rfl (wC_ok _ _ _ _ _ _ _ _ _ _ _ _) rfl rfl rfl rfl rfl (by decide) (Nat.le_of_ble_eq_true rfl) rfl (by decide) (by decide) rfl (fun h8 => by exact zX_e (c := (t, nm, s, D, H, ol, ct, k, y, si, fl, wi)) (by rw [cs_addChord] <;> ((repeat (first | rw [if_pos (by omega)] | rw [if_neg (by omega)])) <;> rfl)) rfl) (fun h8 => ?_)
  show Wa _ _ _ _ _ _ _ _ [] _ _ _
  refine wa_aload_n (pc' := 12) dX9_addChord_11 rfl rfl rfl ?_
  refine wa_getfield (pc' := 15) (j := 2) zc_X9 lk_X9_22 dX9_addChord_12 rfl (by decide) rfl rfl ?_
  refine wa_rV (pc' := 18) (k_X8_chordCount s.1 s.2.1 s.2.2.1 s.2.2.2.1 s.2.2.2.2.1 s.2.2.2.2.2.1 s.2.2.2.2.2.2) ok_X8_chordCount lm_X9_107 dX9_addChord_15 rfl [5, 6, 7, 8] rfl (by decide) rfl rfl rfl rfl rfl (by decide) (Nat.le_of_ble_eq_true rfl) rfl (by decide) (by decide) rfl ?_
  refine wa_bipush (pc' := 20) dX9_addChord_18 rfl rfl ?_
  refine wa_icmp_lt (tgt := 33) (pc' := 23) dX9_addChord_20 (by decide) rfl (by omega) (by omega) (fun c20 => ?_) (fun c20 => ?_)
  · refine wa_aload_n (pc' := 34) dX9_addChord_33 rfl rfl rfl ?_
    refine wa_getfield (pc' := 37) (j := 5) zc_X9 lk_X9_41 dX9_addChord_34 rfl (by decide) rfl rfl ?_
    refine wa_dV (pc' := 40) (w' := (_ :: zO _ [_, _] :: zA _ _ _ :: _ :: _ :: _ :: _ :: _ :: _ :: _ :: _ :: _ :: _ :: _ :: _ :: _ :: _ :: _ :: _ :: _ :: _ :: _ :: _ :: _ :: _ :: _ :: _ :: _ :: _ :: _ :: _ :: _ :: _ :: _ :: _ :: _ :: _ :: _ :: _ :: _ :: _ :: _ :: _ :: _ :: _ :: _ :: _ :: zO _ [_, _, _, _, _, _] :: _ :: _ :: _ :: _ :: _ :: [])) (k_X6_readSingleChord t k.1 k.2.1 k.2.2.1 k.2.2.2.1 k.2.2.2.2 hT9 hk9) ok_X6_readSingleChord lm_X9_147 dX9_addChord_37 rfl [47, 1, 2] rfl (by decide) rfl rfl rfl rfl rfl (by decide) (Nat.le_of_ble_eq_true rfl) rfl (by decide) (by decide) rfl rfl rfl ?_
    have e9 := chS_b t k.2.2.1 hk9
    refine wa_istore_n (pc' := 41) (ls' := [(3, _), (0, _), (1, _), (2, _)]) dX9_addChord_40 rfl rfl (by decide) rfl ?_
    refine wa_iload_n (pc' := 42) dX9_addChord_41 rfl rfl rfl ?_
    refine wa_iconst (pc' := 43) dX9_addChord_42 rfl ?_
    refine wa_icmp_eq (tgt := 50) (pc' := 46) dX9_addChord_43 (by decide) rfl (by omega) (by omega) (fun c43 => ?_) (fun c43 => ?_)
    · refine wa_aload_n (pc' := 51) dX9_addChord_50 rfl rfl rfl ?_
      refine wa_getfield (pc' := 54) (j := 4) zc_X9 lk_X9_32 dX9_addChord_51 rfl (by decide) rfl rfl ?_
      refine wa_aload_n (pc' := 55) dX9_addChord_54 rfl rfl rfl ?_
      refine wa_getfield (pc' := 58) (j := 2) zc_X9 lk_X9_22 dX9_addChord_55 rfl (by decide) rfl rfl ?_
      refine wa_keepC (pc' := 61) (t := t) (nm := nm) (s := s) (D := D) (H := H) (ol := ol) (ct := ct) (k := (chR (gT t) 0 k.2.2.1)) (y := y) (si := si) (fl := fl) (wi := wi) (by omega) zS (by omega) lm_X9_93 dX9_addChord_58 rfl (by decide) (Nat.le_of_ble_eq_true rfl) rfl (by decide) (by decide) ?_
      refine wa_aload_n (pc' := 62) dX9_addChord_61 rfl rfl rfl ?_
      refine wa_getfield (pc' := 65) (j := 0) zc_X9 lk_X9_10 dX9_addChord_62 rfl (by decide) rfl rfl ?_
      refine wa_iconst (pc' := 66) dX9_addChord_65 rfl ?_
      refine wa_dV (pc' := 69) (w' := (_ :: zO _ [_, _] :: zA _ _ _ :: _ :: _ :: _ :: _ :: _ :: _ :: _ :: _ :: _ :: _ :: _ :: _ :: _ :: _ :: _ :: _ :: _ :: _ :: _ :: _ :: _ :: _ :: _ :: _ :: _ :: _ :: _ :: _ :: _ :: _ :: _ :: _ :: _ :: _ :: _ :: _ :: _ :: _ :: _ :: _ :: _ :: _ :: _ :: _ :: _ :: _ :: _ :: _ :: _ :: _ :: [])) (k_X7_cutTo _ (by omega) (by omega) _ (by omega)) ok_X7_cutTo lm_X9_85 dX9_addChord_66 rfl [1, 2] rfl (by decide) rfl rfl rfl rfl rfl (by decide) (Nat.le_of_ble_eq_true rfl) rfl (by decide) (by decide) rfl rfl rfl ?_
      refine wa_aload_n (pc' := 70) dX9_addChord_69 rfl rfl rfl ?_
      refine wa_getfield (pc' := 73) (j := 2) zc_X9 lk_X9_22 dX9_addChord_70 rfl (by decide) rfl rfl ?_
      refine wa_iload_n (pc' := 74) dX9_addChord_73 rfl rfl rfl ?_
      refine wa_iload_n (pc' := 75) dX9_addChord_74 rfl rfl rfl ?_
      refine wa_aload_n (pc' := 76) dX9_addChord_75 rfl rfl rfl ?_
      refine wa_getfield (pc' := 79) (j := 5) zc_X9 lk_X9_41 dX9_addChord_76 rfl (by decide) rfl rfl ?_
      refine wa_rV (pc' := 82) (k_X6_root (rC t 0) (chR (gT t) 0 k.2.2.1).1 (chR (gT t) 0 k.2.2.1).2.1 (chR (gT t) 0 k.2.2.1).2.2.1 (chR (gT t) 0 k.2.2.1).2.2.2.1 (chR (gT t) 0 k.2.2.1).2.2.2.2) ok_X6_root lm_X9_150 dX9_addChord_79 rfl [47, 1, 2] rfl (by decide) rfl rfl rfl rfl rfl (by decide) (Nat.le_of_ble_eq_true rfl) rfl (by decide) (by decide) rfl ?_
      refine wa_aload_n (pc' := 83) dX9_addChord_82 rfl rfl rfl ?_
      refine wa_getfield (pc' := 86) (j := 5) zc_X9 lk_X9_41 dX9_addChord_83 rfl (by decide) rfl rfl ?_
      refine wa_rV (pc' := 89) (k_X6_quality (rC t 0) (chR (gT t) 0 k.2.2.1).1 (chR (gT t) 0 k.2.2.1).2.1 (chR (gT t) 0 k.2.2.1).2.2.1 (chR (gT t) 0 k.2.2.1).2.2.2.1 (chR (gT t) 0 k.2.2.1).2.2.2.2) ok_X6_quality lm_X9_153 dX9_addChord_86 rfl [47, 1, 2] rfl (by decide) rfl rfl rfl rfl rfl (by decide) (Nat.le_of_ble_eq_true rfl) rfl (by decide) (by decide) rfl ?_
      refine wa_aload_n (pc' := 90) dX9_addChord_89 rfl rfl rfl ?_
      refine wa_getfield (pc' := 93) (j := 5) zc_X9 lk_X9_41 dX9_addChord_90 rfl (by decide) rfl rfl ?_
      refine wa_rV (pc' := 96) (k_X6_bass (rC t 0) (chR (gT t) 0 k.2.2.1).1 (chR (gT t) 0 k.2.2.1).2.1 (chR (gT t) 0 k.2.2.1).2.2.1 (chR (gT t) 0 k.2.2.1).2.2.2.1 (chR (gT t) 0 k.2.2.1).2.2.2.2) ok_X6_bass lm_X9_156 dX9_addChord_93 rfl [47, 1, 2] rfl (by decide) rfl rfl rfl rfl rfl (by decide) (Nat.le_of_ble_eq_true rfl) rfl (by decide) (by decide) rfl ?_
      refine wa_dV (pc' := 99) (w' := (_ :: _ :: _ :: _ :: _ :: zO _ [_, _, _, _, _, _, _] :: zA _ _ _ :: zA _ _ _ :: zA _ _ _ :: _ :: _ :: _ :: _ :: _ :: _ :: _ :: _ :: _ :: _ :: _ :: _ :: _ :: _ :: _ :: _ :: _ :: _ :: _ :: _ :: _ :: _ :: _ :: _ :: _ :: _ :: _ :: _ :: _ :: _ :: _ :: _ :: _ :: _ :: _ :: _ :: _ :: _ :: _ :: _ :: _ :: _ :: _ :: _ :: [])) (k_X8_insert s.1 s.2.1 s.2.2.1 s.2.2.2.1 s.2.2.2.2.1 s.2.2.2.2.2.1 s.2.2.2.2.2.2 l c _ _ _ (by omega) (by omega) (by omega) zF1) ok_X8_insert lm_X9_169 dX9_addChord_96 rfl [5, 6, 7, 8] rfl (by decide) rfl rfl rfl rfl rfl (by decide) (Nat.le_of_ble_eq_true rfl) rfl (by decide) (by decide) rfl rfl rfl ?_
      refine wa_iret dX9_addChord_99 rfl (by decide) (by decide) ?_
      exact zX_e (c := (rC t 0, nm, (s.1, s.2.1, insF s.2.2.1 (cUT s.2.2.1 l c s.2.2.2.2.1.toNat 0) s.2.2.2.2.1 l c (chR (gT t) 0 k.2.2.1).2.1 (chR (gT t) 0 k.2.2.1).2.2.1 (chR (gT t) 0 k.2.2.1).2.2.2.1, s.2.2.2.1, s.2.2.2.2.1 + 1, s.2.2.2.2.2.1, s.2.2.2.2.2.2), D, hup H ((ol + ct) % 8).toNat s, (if ct < 8 then ol else (ol + 1) % 8), (if ct < 8 then ct + 1 else ct), (chR (gT t) 0 k.2.2.1), y, si, fl, wi)) (by rw [cs_addChord] <;> ((repeat (first | rw [if_pos (by omega)] | rw [if_neg (by omega)])) <;> rfl)) rfl
    · refine wa_iconst (pc' := 47) dX9_addChord_46 rfl ?_
      refine wa_iload_n (pc' := 48) dX9_addChord_47 rfl rfl rfl ?_
      refine wa_isub (pc' := 49) dX9_addChord_48 rfl ?_
      refine wa_iret dX9_addChord_49 rfl (by decide) (by decide) ?_
      exact zX_e (c := (t, nm, s, D, H, ol, ct, (chR (gT t) 0 k.2.2.1), y, si, fl, wi)) (by rw [cs_addChord] <;> ((repeat (first | rw [if_pos (by omega)] | rw [if_neg (by omega)])) <;> rfl)) rfl
  · exact wa_throwS (text := "there are 40 chords already") zx_X9_76_80 (by decide) dX9_addChord_23 dX9_addChord_26 dX9_addChord_27 dX9_addChord_29 dX9_addChord_32 rfl (by decide) (by decide) (by decide) (by decide) (by exact zX_e (c := (t, nm, s, D, H, ol, ct, k, y, si, fl, wi)) (by rw [cs_addChord] <;> ((repeat (first | rw [if_pos (by omega)] | rw [if_neg (by omega)])) <;> rfl)) rfl)

def cs_removeChord (i : Int) : zCS → zP × zCS
  | (t, nm, s, D, H, ol, ct, k, y, si, fl, wi) => if ¬ (0 ≤ i ∧ i < s.2.2.2.2.1) then (.inr eIO, (t, nm, s, D, H, ol, ct, k, y, si, fl, wi)) else (.inl (some (zI (s.2.2.2.2.1 - 1))), (t, nm, (s.1, s.2.1, outF s.2.2.1 i s.2.2.2.2.1, s.2.2.2.1, s.2.2.2.2.1 - 1, s.2.2.2.2.2.1, s.2.2.2.2.2.2), D, hup H ((ol + ct) % 8).toNat s, (if ct < 8 then ol else (ol + 1) % 8), (if ct < 8 then ct + 1 else ct), k, y, si, fl, wi))
set_option maxRecDepth 10000 in
set_option maxHeartbeats 1000000 in
theorem k_X9_removeChord (t nm : zRw) (s D : zSh) (H : Nat → zSh) (ol ct : Int) (k : zKd) (y : zLy) (si fl wi : Int) (h : okC (t, nm, s, D, H, ol, ct, k, y, si, fl, wi)) (i : Int) (hi : zin i)  : zMet q_X9_removeChord 8 1 6 [zR 0, zI i] (wC t nm s D H ol ct k y si fl wi) (zX (cs_removeChord i (t, nm, s, D, H, ol, ct, k, y, si, fl, wi)).1 (wCS (cs_removeChord i (t, nm, s, D, H, ol, ct, k, y, si, fl, wi)).2)) := by
  refine z_introF (ls := [(0, _), (1, _)]) (by decide +kernel) rfl (fun _ _ => rfl) (fun _ _ => Nat.le_of_ble_eq_true rfl) ?_
  obtain ⟨hT9, hnm, hs9, hD9, hH9, hol, hct, hk9, hq9, hsi, hfl, hwi⟩ := id h
  obtain ⟨hT8, hT7, hT6⟩ := id hT9
  obtain ⟨z1, z2, zT1, z4, zF1, zL1⟩ := id hs9.1
  have zNm := hs9.2.1
  have zg := hs9.2.2.1
  have zm := hs9.2.2.2.1
  have hln := hs9.2.2.2.2
  have zQ1 := fun i h1 h2 => (zNm i h1 h2).2.1
  have zS : okS s := ⟨zm, zL1⟩
  refine wa_aload_n (pc' := 1) dX9_removeChord_0 rfl rfl rfl ?_
  refine wa_iload_n (pc' := 2) dX9_removeChord_1 rfl rfl rfl ?_
  refine wa_tR (pc' := 5) (k_X9_requireChord t nm s D H ol ct k y si fl wi (by assumption) i (by omega)) ok_X9_requireChord lm_X9_131 dX9_removeChord_2 rfl (wC_ok _ _ _ _ _ _ _ _ _ _ _ _) rfl rfl rfl rfl rfl (by decide) (Nat.le_of_ble_eq_true rfl) rfl (by decide) (by decide) rfl (fun h2 => by exact zX_e (c := (t, nm, s, D, H, ol, ct, k, y, si, fl, wi)) (by rw [cs_removeChord] <;> ((repeat (first | rw [if_pos (by omega)] | rw [if_neg (by omega)])) <;> rfl)) rfl) (fun h2 => ?_)
  show Wa _ _ _ _ _ _ _ _ [] _ _ _
  refine wa_aload_n (pc' := 6) dX9_removeChord_5 rfl rfl rfl ?_
  refine wa_getfield (pc' := 9) (j := 4) zc_X9 lk_X9_32 dX9_removeChord_6 rfl (by decide) rfl rfl ?_
  refine wa_aload_n (pc' := 10) dX9_removeChord_9 rfl rfl rfl ?_
  refine wa_getfield (pc' := 13) (j := 2) zc_X9 lk_X9_22 dX9_removeChord_10 rfl (by decide) rfl rfl ?_
  refine wa_keepC (pc' := 16) (t := t) (nm := nm) (s := s) (D := D) (H := H) (ol := ol) (ct := ct) (k := k) (y := y) (si := si) (fl := fl) (wi := wi) (by omega) zS (by omega) lm_X9_93 dX9_removeChord_13 rfl (by decide) (Nat.le_of_ble_eq_true rfl) rfl (by decide) (by decide) ?_
  refine wa_aload_n (pc' := 17) dX9_removeChord_16 rfl rfl rfl ?_
  refine wa_getfield (pc' := 20) (j := 2) zc_X9 lk_X9_22 dX9_removeChord_17 rfl (by decide) rfl rfl ?_
  refine wa_iload_n (pc' := 21) dX9_removeChord_20 rfl rfl rfl ?_
  refine wa_dV (pc' := 24) (w' := (_ :: _ :: _ :: _ :: _ :: zO _ [_, _, _, _, _, _, _] :: zA _ _ _ :: zA _ _ _ :: zA _ _ _ :: _ :: _ :: _ :: _ :: _ :: _ :: _ :: _ :: _ :: _ :: _ :: _ :: _ :: _ :: _ :: _ :: _ :: _ :: _ :: _ :: _ :: _ :: _ :: _ :: _ :: _ :: _ :: _ :: _ :: _ :: _ :: _ :: _ :: _ :: _ :: _ :: _ :: _ :: _ :: _ :: _ :: _ :: _ :: _ :: [])) (k_X8_takeOut s.1 s.2.1 s.2.2.1 s.2.2.2.1 s.2.2.2.2.1 s.2.2.2.2.2.1 s.2.2.2.2.2.2 i (by omega) (by omega)) ok_X8_takeOut lm_X9_173 dX9_removeChord_21 rfl [5, 6, 7, 8] rfl (by decide) rfl rfl rfl rfl rfl (by decide) (Nat.le_of_ble_eq_true rfl) rfl (by decide) (by decide) rfl rfl rfl ?_
  refine wa_aload_n (pc' := 25) dX9_removeChord_24 rfl rfl rfl ?_
  refine wa_getfield (pc' := 28) (j := 2) zc_X9 lk_X9_22 dX9_removeChord_25 rfl (by decide) rfl rfl ?_
  refine wa_rV (pc' := 31) (k_X8_chordCount s.1 s.2.1 (outF s.2.2.1 i s.2.2.2.2.1) s.2.2.2.1 (s.2.2.2.2.1 - 1) s.2.2.2.2.2.1 s.2.2.2.2.2.2) ok_X8_chordCount lm_X9_107 dX9_removeChord_28 rfl [5, 6, 7, 8] rfl (by decide) rfl rfl rfl rfl rfl (by decide) (Nat.le_of_ble_eq_true rfl) rfl (by decide) (by decide) rfl ?_
  refine wa_iret dX9_removeChord_31 rfl (by decide) (by decide) ?_
  exact zX_e (c := (t, nm, (s.1, s.2.1, outF s.2.2.1 i s.2.2.2.2.1, s.2.2.2.1, s.2.2.2.2.1 - 1, s.2.2.2.2.2.1, s.2.2.2.2.2.2), D, hup H ((ol + ct) % 8).toNat s, (if ct < 8 then ol else (ol + 1) % 8), (if ct < 8 then ct + 1 else ct), k, y, si, fl, wi)) (by rw [cs_removeChord] <;> ((repeat (first | rw [if_pos (by omega)] | rw [if_neg (by omega)])) <;> rfl)) rfl

def cs_moveChord (i : Int) (c : Int) : zCS → zP × zCS
  | (t, nm, s, D, H, ol, ct, k, y, si, fl, wi) => if ¬ (0 ≤ i ∧ i < s.2.2.2.2.1) then (.inr eIO, (t, nm, s, D, H, ol, ct, k, y, si, fl, wi)) else if c < 0 ∨ s.2.1 (s.2.2.1 (i * 5 + 0) + 1) - s.2.1 (s.2.2.1 (i * 5 + 0)) < c then (.inr eIO, (t, nm, s, D, H, ol, ct, k, y, si, fl, wi)) else (.inl (some (zI ((cUT (outF s.2.2.1 i s.2.2.2.2.1) (s.2.2.1 (i * 5 + 0)) c (s.2.2.2.2.1 - 1).toNat 0)))), (t, nm, (s.1, s.2.1, insF (outF s.2.2.1 i s.2.2.2.2.1) (cUT (outF s.2.2.1 i s.2.2.2.2.1) (s.2.2.1 (i * 5 + 0)) c (s.2.2.2.2.1 - 1).toNat 0) (s.2.2.2.2.1 - 1) (s.2.2.1 (i * 5 + 0)) c (s.2.2.1 (i * 5 + 2)) (s.2.2.1 (i * 5 + 3)) (s.2.2.1 (i * 5 + 4)), s.2.2.2.1, s.2.2.2.2.1 - 1 + 1, s.2.2.2.2.2.1, s.2.2.2.2.2.2), D, hup H ((ol + ct) % 8).toNat s, (if ct < 8 then ol else (ol + 1) % 8), (if ct < 8 then ct + 1 else ct), k, y, si, fl, wi))
set_option maxRecDepth 10000 in
set_option maxHeartbeats 1000000 in
theorem k_X9_moveChord (t nm : zRw) (s D : zSh) (H : Nat → zSh) (ol ct : Int) (k : zKd) (y : zLy) (si fl wi : Int) (h : okC (t, nm, s, D, H, ol, ct, k, y, si, fl, wi)) (i : Int) (hi : zin i) (c : Int) (hc : zin c)  : zMet q_X9_moveChord 8 2 12 [zR 0, zI i, zI c] (wC t nm s D H ol ct k y si fl wi) (zX (cs_moveChord i c (t, nm, s, D, H, ol, ct, k, y, si, fl, wi)).1 (wCS (cs_moveChord i c (t, nm, s, D, H, ol, ct, k, y, si, fl, wi)).2)) := by
  refine z_introF (ls := [(0, _), (1, _), (2, _)]) (by decide +kernel) rfl (fun _ _ => rfl) (fun _ _ => Nat.le_of_ble_eq_true rfl) ?_
  obtain ⟨hT9, hnm, hs9, hD9, hH9, hol, hct, hk9, hq9, hsi, hfl, hwi⟩ := id h
  obtain ⟨hT8, hT7, hT6⟩ := id hT9
  obtain ⟨z1, z2, zT1, z4, zF1, zL1⟩ := id hs9.1
  have zNm := hs9.2.1
  have zg := hs9.2.2.1
  have zm := hs9.2.2.2.1
  have hln := hs9.2.2.2.2
  have zQ1 := fun i h1 h2 => (zNm i h1 h2).2.1
  have zS : okS s := ⟨zm, zL1⟩
  refine wa_aload_n (pc' := 1) dX9_moveChord_0 rfl rfl rfl ?_
  refine wa_iload_n (pc' := 2) dX9_moveChord_1 rfl rfl rfl ?_
  refine wa_tR (pc' := 5) (k_X9_requireChord t nm s D H ol ct k y si fl wi (by assumption) i (by omega)) ok_X9_requireChord lm_X9_131 dX9_moveChord_2 rfl (wC_ok _ _ _ _ _ _ _ _ _ _ _ _) rfl rfl rfl rfl rfl (by decide) (Nat.le_of_ble_eq_true rfl) rfl (by decide) (by decide) rfl (fun h2 => by exact zX_e (c := (t, nm, s, D, H, ol, ct, k, y, si, fl, wi)) (by rw [cs_moveChord] <;> ((repeat (first | rw [if_pos (by omega)] | rw [if_neg (by omega)])) <;> rfl)) rfl) (fun h2 => ?_)
  show Wa _ _ _ _ _ _ _ _ [] _ _ _
  have e1 := hln i (by omega) (by omega)
  have e2 := zT1 (s.2.2.1 (i * 5 + 0)) (by omega) (by omega)
  have e3 := zT1 (s.2.2.1 (i * 5 + 0) + 1) (by omega) (by omega)
  refine wa_aload_n (pc' := 6) dX9_moveChord_5 rfl rfl rfl ?_
  refine wa_getfield (pc' := 9) (j := 2) zc_X9 lk_X9_22 dX9_moveChord_6 rfl (by decide) rfl rfl ?_
  refine wa_iload_n (pc' := 10) dX9_moveChord_9 rfl rfl rfl ?_
  refine wa_iconst (pc' := 11) dX9_moveChord_10 rfl ?_
  refine wa_rV (pc' := 14) (k_X8_get s.1 s.2.1 s.2.2.1 s.2.2.2.1 s.2.2.2.2.1 s.2.2.2.2.2.1 s.2.2.2.2.2.2 i 0 (by omega) (by omega)) ok_X8_get lm_X9_134 dX9_moveChord_11 rfl [5, 6, 7, 8] rfl (by decide) rfl rfl rfl rfl rfl (by decide) (Nat.le_of_ble_eq_true rfl) rfl (by decide) (by decide) rfl ?_
  refine wa_istore_n (pc' := 15) (ls' := [(3, _), (0, _), (1, _), (2, _)]) dX9_moveChord_14 rfl rfl (by decide) rfl ?_
  refine wa_aload_n (pc' := 16) dX9_moveChord_15 rfl rfl rfl ?_
  refine wa_iload_n (pc' := 17) dX9_moveChord_16 rfl rfl rfl ?_
  refine wa_iload_n (pc' := 18) dX9_moveChord_17 rfl rfl rfl ?_
  refine wa_tR (pc' := 21) (k_X9_requireChordColumn t nm s D H ol ct k y si fl wi (by assumption) (s.2.2.1 (i * 5 + 0)) (hln i (by omega) (by omega)) c (by omega)) ok_X9_requireChordColumn lm_X9_163 dX9_moveChord_18 rfl (wC_ok _ _ _ _ _ _ _ _ _ _ _ _) rfl rfl rfl rfl rfl (by decide) (Nat.le_of_ble_eq_true rfl) rfl (by decide) (by decide) rfl (fun h18 => by exact zX_e (c := (t, nm, s, D, H, ol, ct, k, y, si, fl, wi)) (by rw [cs_moveChord] <;> ((repeat (first | rw [if_pos (by omega)] | rw [if_neg (by omega)])) <;> rfl)) rfl) (fun h18 => ?_)
  show Wa _ _ _ _ _ _ _ _ [] _ _ _
  refine wa_aload_n (pc' := 22) dX9_moveChord_21 rfl rfl rfl ?_
  refine wa_getfield (pc' := 25) (j := 4) zc_X9 lk_X9_32 dX9_moveChord_22 rfl (by decide) rfl rfl ?_
  refine wa_aload_n (pc' := 26) dX9_moveChord_25 rfl rfl rfl ?_
  refine wa_getfield (pc' := 29) (j := 2) zc_X9 lk_X9_22 dX9_moveChord_26 rfl (by decide) rfl rfl ?_
  refine wa_keepC (pc' := 32) (t := t) (nm := nm) (s := s) (D := D) (H := H) (ol := ol) (ct := ct) (k := k) (y := y) (si := si) (fl := fl) (wi := wi) (by omega) zS (by omega) lm_X9_93 dX9_moveChord_29 rfl (by decide) (Nat.le_of_ble_eq_true rfl) rfl (by decide) (by decide) ?_
  refine wa_aload_n (pc' := 33) dX9_moveChord_32 rfl rfl rfl ?_
  refine wa_getfield (pc' := 36) (j := 2) zc_X9 lk_X9_22 dX9_moveChord_33 rfl (by decide) rfl rfl ?_
  refine wa_iload_n (pc' := 37) dX9_moveChord_36 rfl rfl rfl ?_
  refine wa_iconst (pc' := 38) dX9_moveChord_37 rfl ?_
  refine wa_rV (pc' := 41) (k_X8_get s.1 s.2.1 s.2.2.1 s.2.2.2.1 s.2.2.2.2.1 s.2.2.2.2.2.1 s.2.2.2.2.2.2 i 2 (by omega) (by omega)) ok_X8_get lm_X9_134 dX9_moveChord_38 rfl [5, 6, 7, 8] rfl (by decide) rfl rfl rfl rfl rfl (by decide) (Nat.le_of_ble_eq_true rfl) rfl (by decide) (by decide) rfl ?_
  refine wa_istore (pc' := 43) (ls' := [(4, _), (3, _), (0, _), (1, _), (2, _)]) dX9_moveChord_41 rfl (by decide) rfl ?_
  refine wa_aload_n (pc' := 44) dX9_moveChord_43 rfl rfl rfl ?_
  refine wa_getfield (pc' := 47) (j := 2) zc_X9 lk_X9_22 dX9_moveChord_44 rfl (by decide) rfl rfl ?_
  refine wa_iload_n (pc' := 48) dX9_moveChord_47 rfl rfl rfl ?_
  refine wa_iconst (pc' := 49) dX9_moveChord_48 rfl ?_
  refine wa_rV (pc' := 52) (k_X8_get s.1 s.2.1 s.2.2.1 s.2.2.2.1 s.2.2.2.2.1 s.2.2.2.2.2.1 s.2.2.2.2.2.2 i 3 (by omega) (by omega)) ok_X8_get lm_X9_134 dX9_moveChord_49 rfl [5, 6, 7, 8] rfl (by decide) rfl rfl rfl rfl rfl (by decide) (Nat.le_of_ble_eq_true rfl) rfl (by decide) (by decide) rfl ?_
  refine wa_istore (pc' := 54) (ls' := [(5, _), (4, _), (3, _), (0, _), (1, _), (2, _)]) dX9_moveChord_52 rfl (by decide) rfl ?_
  refine wa_aload_n (pc' := 55) dX9_moveChord_54 rfl rfl rfl ?_
  refine wa_getfield (pc' := 58) (j := 2) zc_X9 lk_X9_22 dX9_moveChord_55 rfl (by decide) rfl rfl ?_
  refine wa_iload_n (pc' := 59) dX9_moveChord_58 rfl rfl rfl ?_
  refine wa_iconst (pc' := 60) dX9_moveChord_59 rfl ?_
  refine wa_rV (pc' := 63) (k_X8_get s.1 s.2.1 s.2.2.1 s.2.2.2.1 s.2.2.2.2.1 s.2.2.2.2.2.1 s.2.2.2.2.2.2 i 4 (by omega) (by omega)) ok_X8_get lm_X9_134 dX9_moveChord_60 rfl [5, 6, 7, 8] rfl (by decide) rfl rfl rfl rfl rfl (by decide) (Nat.le_of_ble_eq_true rfl) rfl (by decide) (by decide) rfl ?_
  refine wa_istore (pc' := 65) (ls' := [(6, _), (5, _), (4, _), (3, _), (0, _), (1, _), (2, _)]) dX9_moveChord_63 rfl (by decide) rfl ?_
  refine wa_aload_n (pc' := 66) dX9_moveChord_65 rfl rfl rfl ?_
  refine wa_getfield (pc' := 69) (j := 2) zc_X9 lk_X9_22 dX9_moveChord_66 rfl (by decide) rfl rfl ?_
  refine wa_iload_n (pc' := 70) dX9_moveChord_69 rfl rfl rfl ?_
  refine wa_dV (pc' := 73) (w' := (_ :: _ :: _ :: _ :: _ :: zO _ [_, _, _, _, _, _, _] :: zA _ _ _ :: zA _ _ _ :: zA _ _ _ :: _ :: _ :: _ :: _ :: _ :: _ :: _ :: _ :: _ :: _ :: _ :: _ :: _ :: _ :: _ :: _ :: _ :: _ :: _ :: _ :: _ :: _ :: _ :: _ :: _ :: _ :: _ :: _ :: _ :: _ :: _ :: _ :: _ :: _ :: _ :: _ :: _ :: _ :: _ :: _ :: _ :: _ :: _ :: _ :: [])) (k_X8_takeOut s.1 s.2.1 s.2.2.1 s.2.2.2.1 s.2.2.2.2.1 s.2.2.2.2.2.1 s.2.2.2.2.2.2 i (by omega) (by omega)) ok_X8_takeOut lm_X9_173 dX9_moveChord_70 rfl [5, 6, 7, 8] rfl (by decide) rfl rfl rfl rfl rfl (by decide) (Nat.le_of_ble_eq_true rfl) rfl (by decide) (by decide) rfl rfl rfl ?_
  refine wa_aload_n (pc' := 74) dX9_moveChord_73 rfl rfl rfl ?_
  refine wa_getfield (pc' := 77) (j := 2) zc_X9 lk_X9_22 dX9_moveChord_74 rfl (by decide) rfl rfl ?_
  refine wa_iload_n (pc' := 78) dX9_moveChord_77 rfl rfl rfl ?_
  refine wa_iload_n (pc' := 79) dX9_moveChord_78 rfl rfl rfl ?_
  refine wa_iload (pc' := 81) dX9_moveChord_79 rfl rfl ?_
  refine wa_iload (pc' := 83) dX9_moveChord_81 rfl rfl ?_
  refine wa_iload (pc' := 85) dX9_moveChord_83 rfl rfl ?_
  refine wa_dV (pc' := 88) (w' := (_ :: _ :: _ :: _ :: _ :: zO _ [_, _, _, _, _, _, _] :: zA _ _ _ :: zA _ _ _ :: zA _ _ _ :: _ :: _ :: _ :: _ :: _ :: _ :: _ :: _ :: _ :: _ :: _ :: _ :: _ :: _ :: _ :: _ :: _ :: _ :: _ :: _ :: _ :: _ :: _ :: _ :: _ :: _ :: _ :: _ :: _ :: _ :: _ :: _ :: _ :: _ :: _ :: _ :: _ :: _ :: _ :: _ :: _ :: _ :: _ :: _ :: [])) (k_X8_insert s.1 s.2.1 (outF s.2.2.1 i s.2.2.2.2.1) s.2.2.2.1 (s.2.2.2.2.1 - 1) s.2.2.2.2.2.1 s.2.2.2.2.2.2 (s.2.2.1 (i * 5 + 0)) c _ _ _ (by omega) (by omega) (by omega) (outF_b zF1 (by omega) (by omega))) ok_X8_insert lm_X9_169 dX9_moveChord_85 rfl [5, 6, 7, 8] rfl (by decide) rfl rfl rfl rfl rfl (by decide) (Nat.le_of_ble_eq_true rfl) rfl (by decide) (by decide) rfl rfl rfl ?_
  refine wa_iret dX9_moveChord_88 rfl (by decide) (by decide) ?_
  exact zX_e (c := (t, nm, (s.1, s.2.1, insF (outF s.2.2.1 i s.2.2.2.2.1) (cUT (outF s.2.2.1 i s.2.2.2.2.1) (s.2.2.1 (i * 5 + 0)) c (s.2.2.2.2.1 - 1).toNat 0) (s.2.2.2.2.1 - 1) (s.2.2.1 (i * 5 + 0)) c (s.2.2.1 (i * 5 + 2)) (s.2.2.1 (i * 5 + 3)) (s.2.2.1 (i * 5 + 4)), s.2.2.2.1, s.2.2.2.2.1 - 1 + 1, s.2.2.2.2.2.1, s.2.2.2.2.2.2), D, hup H ((ol + ct) % 8).toNat s, (if ct < 8 then ol else (ol + 1) % 8), (if ct < 8 then ct + 1 else ct), k, y, si, fl, wi)) (by rw [cs_moveChord] <;> ((repeat (first | rw [if_pos (by omega)] | rw [if_neg (by omega)])) <;> rfl)) rfl

def cs_commonTones (i : Int) : zCS → zP × zCS
  | (t, nm, s, D, H, ol, ct, k, y, si, fl, wi) => if i < 0 ∨ s.2.2.2.2.1 - 1 ≤ i then (.inr eIO, (t, nm, s, D, H, ol, ct, k, y, si, fl, wi)) else (.inl (some (zI (((zpop (zand (toneF (s.2.2.1 (i * 5 + 2)) (s.2.2.1 (i * 5 + 3)) (s.2.2.1 (i * 5 + 4))) (toneF (s.2.2.1 ((i + 1) * 5 + 2)) (s.2.2.1 ((i + 1) * 5 + 3)) (s.2.2.1 ((i + 1) * 5 + 4)))).toNat : Nat) : Int)))), (t, nm, s, D, H, ol, ct, k, y, si, fl, wi))
set_option maxRecDepth 10000 in
set_option maxHeartbeats 1000000 in
theorem k_X9_commonTones (t nm : zRw) (s D : zSh) (H : Nat → zSh) (ol ct : Int) (k : zKd) (y : zLy) (si fl wi : Int) (h : okC (t, nm, s, D, H, ol, ct, k, y, si, fl, wi)) (i : Int) (hi : zin i)  : zMet q_X9_commonTones 7 1 6 [zR 0, zI i] (wC t nm s D H ol ct k y si fl wi) (zX (cs_commonTones i (t, nm, s, D, H, ol, ct, k, y, si, fl, wi)).1 (wCS (cs_commonTones i (t, nm, s, D, H, ol, ct, k, y, si, fl, wi)).2)) := by
  refine z_introF (ls := [(0, _), (1, _)]) (by decide +kernel) rfl (fun _ _ => rfl) (fun _ _ => Nat.le_of_ble_eq_true rfl) ?_
  obtain ⟨hT9, hnm, hs9, hD9, hH9, hol, hct, hk9, hq9, hsi, hfl, hwi⟩ := id h
  obtain ⟨hT8, hT7, hT6⟩ := id hT9
  obtain ⟨z1, z2, zT1, z4, zF1, zL1⟩ := id hs9.1
  have zNm := hs9.2.1
  have zg := hs9.2.2.1
  have zm := hs9.2.2.2.1
  have hln := hs9.2.2.2.2
  have zQ1 := fun i h1 h2 => (zNm i h1 h2).2.1
  have zS : okS s := ⟨zm, zL1⟩
  refine wa_iload_n (pc' := 1) dX9_commonTones_0 rfl rfl rfl ?_
  refine wa_if_lt (tgt := 17) (pc' := 4) dX9_commonTones_1 (by decide) rfl (by omega) (fun c1 => ?_) (fun c1 => ?_)
  · exact wa_throwS (text := "there is no such chord with a next one") zx_X9_122_126 (by decide) dX9_commonTones_17 dX9_commonTones_20 dX9_commonTones_21 dX9_commonTones_23 dX9_commonTones_26 rfl (by decide) (by decide) (by decide) (by decide) (by exact zX_e (c := (t, nm, s, D, H, ol, ct, k, y, si, fl, wi)) (by rw [cs_commonTones] <;> ((repeat (first | rw [if_pos (by omega)] | rw [if_neg (by omega)])) <;> rfl)) rfl)
  · refine wa_iload_n (pc' := 5) dX9_commonTones_4 rfl rfl rfl ?_
    refine wa_aload_n (pc' := 6) dX9_commonTones_5 rfl rfl rfl ?_
    refine wa_getfield (pc' := 9) (j := 2) zc_X9 lk_X9_22 dX9_commonTones_6 rfl (by decide) rfl rfl ?_
    refine wa_rV (pc' := 12) (k_X8_chordCount s.1 s.2.1 s.2.2.1 s.2.2.2.1 s.2.2.2.2.1 s.2.2.2.2.2.1 s.2.2.2.2.2.2) ok_X8_chordCount lm_X9_107 dX9_commonTones_9 rfl [5, 6, 7, 8] rfl (by decide) rfl rfl rfl rfl rfl (by decide) (Nat.le_of_ble_eq_true rfl) rfl (by decide) (by decide) rfl ?_
    refine wa_iconst (pc' := 13) dX9_commonTones_12 rfl ?_
    refine wa_isub (pc' := 14) dX9_commonTones_13 rfl ?_
    refine wa_icmp_lt (tgt := 27) (pc' := 17) dX9_commonTones_14 (by decide) rfl (by omega) (by omega) (fun c14 => ?_) (fun c14 => ?_)
    · refine wa_aload_n (pc' := 28) dX9_commonTones_27 rfl rfl rfl ?_
      refine wa_getfield (pc' := 31) (j := 2) zc_X9 lk_X9_22 dX9_commonTones_28 rfl (by decide) rfl rfl ?_
      refine wa_iload_n (pc' := 32) dX9_commonTones_31 rfl rfl rfl ?_
      refine wa_rV (pc' := 35) (k_X8_tonesOf s.1 s.2.1 s.2.2.1 s.2.2.2.1 s.2.2.2.2.1 s.2.2.2.2.2.1 s.2.2.2.2.2.2 (i) (by omega) (zF1 _ (by omega) (by omega)) (zQ1 _ (by omega) (by omega)) (zF1 _ (by omega) (by omega))) ok_X8_tonesOf lm_X9_178 dX9_commonTones_32 rfl [5, 6, 7, 8] rfl (by decide) rfl rfl rfl rfl rfl (by decide) (Nat.le_of_ble_eq_true rfl) rfl (by decide) (by decide) rfl ?_
      refine wa_aload_n (pc' := 36) dX9_commonTones_35 rfl rfl rfl ?_
      refine wa_getfield (pc' := 39) (j := 2) zc_X9 lk_X9_22 dX9_commonTones_36 rfl (by decide) rfl rfl ?_
      refine wa_iload_n (pc' := 40) dX9_commonTones_39 rfl rfl rfl ?_
      refine wa_iconst (pc' := 41) dX9_commonTones_40 rfl ?_
      refine wa_iadd (pc' := 42) dX9_commonTones_41 rfl ?_
      refine wa_rV (pc' := 45) (k_X8_tonesOf s.1 s.2.1 s.2.2.1 s.2.2.2.1 s.2.2.2.2.1 s.2.2.2.2.2.1 s.2.2.2.2.2.2 (i + 1) (by omega) (zF1 _ (by omega) (by omega)) (zQ1 _ (by omega) (by omega)) (zF1 _ (by omega) (by omega))) ok_X8_tonesOf lm_X9_178 dX9_commonTones_42 rfl [5, 6, 7, 8] rfl (by decide) rfl rfl rfl rfl rfl (by decide) (Nat.le_of_ble_eq_true rfl) rfl (by decide) (by decide) rfl ?_
      refine wa_iand (pc' := 46) dX9_commonTones_45 rfl ?_
      have e9 := tone_b (r := s.2.2.1 (i * 5 + 2)) (q := s.2.2.1 (i * 5 + 3)) (b := s.2.2.1 (i * 5 + 4)) (zQ1 i (by omega) (by omega)) (toneF (s.2.2.1 ((i + 1) * 5 + 2)) (s.2.2.1 ((i + 1) * 5 + 3)) (s.2.2.1 ((i + 1) * 5 + 4)))
      rw [show zand (toneF (s.2.2.1 (i * 5 + 2)) (s.2.2.1 (i * 5 + 3)) (s.2.2.1 (i * 5 + 4))) (toneF (s.2.2.1 ((i + 1) * 5 + 2)) (s.2.2.1 ((i + 1) * 5 + 3)) (s.2.2.1 ((i + 1) * 5 + 4))) = (((zand (toneF (s.2.2.1 (i * 5 + 2)) (s.2.2.1 (i * 5 + 3)) (s.2.2.1 (i * 5 + 4))) (toneF (s.2.2.1 ((i + 1) * 5 + 2)) (s.2.2.1 ((i + 1) * 5 + 3)) (s.2.2.1 ((i + 1) * 5 + 4)))).toNat : Nat) : Int) from (Int.toNat_of_nonneg e9.1).symm]
      refine wa_dS (pc' := 49) (w' := (_ :: _ :: _ :: _ :: _ :: _ :: _ :: _ :: _ :: _ :: _ :: _ :: _ :: _ :: _ :: _ :: _ :: _ :: _ :: _ :: _ :: _ :: _ :: _ :: _ :: _ :: _ :: _ :: _ :: _ :: _ :: _ :: _ :: _ :: _ :: _ :: _ :: _ :: _ :: _ :: _ :: _ :: _ :: _ :: _ :: _ :: _ :: _ :: _ :: _ :: _ :: _ :: _ :: [])) (k_J6_bitCount_0f7a4 (zand (toneF (s.2.2.1 (i * 5 + 2)) (s.2.2.1 (i * 5 + 3)) (s.2.2.1 (i * 5 + 4))) (toneF (s.2.2.1 ((i + 1) * 5 + 2)) (s.2.2.1 ((i + 1) * 5 + 3)) (s.2.2.1 ((i + 1) * 5 + 4)))).toNat (by omega)) ok_J6_bitCount_0f7a4 lm_X9_181 dX9_commonTones_46 rfl [] rfl (by decide) rfl rfl (by decide) (Nat.le_of_ble_eq_true rfl) rfl (by decide) (by decide) rfl rfl rfl ?_
      refine wa_iret dX9_commonTones_49 rfl (by decide) (by decide) ?_
      exact zX_e (c := (t, nm, s, D, H, ol, ct, k, y, si, fl, wi)) (by rw [cs_commonTones] <;> ((repeat (first | rw [if_pos (by omega)] | rw [if_neg (by omega)])) <;> rfl)) rfl
    · exact wa_throwS (text := "there is no such chord with a next one") zx_X9_122_126 (by decide) dX9_commonTones_17 dX9_commonTones_20 dX9_commonTones_21 dX9_commonTones_23 dX9_commonTones_26 rfl (by decide) (by decide) (by decide) (by decide) (by exact zX_e (c := (t, nm, s, D, H, ol, ct, k, y, si, fl, wi)) (by rw [cs_commonTones] <;> ((repeat (first | rw [if_pos (by omega)] | rw [if_neg (by omega)])) <;> rfl)) rfl)

def cs_degree (i : Int) : zCS → zP × zCS
  | (t, nm, s, D, H, ol, ct, k, y, si, fl, wi) => if ¬ (0 ≤ i ∧ i < s.2.2.2.2.1) then (.inr eIO, (t, nm, s, D, H, ol, ct, k, y, si, fl, wi)) else (.inl (some (zI (dgF (pcl (s.2.2.1 (i * 5 + 2))) s.2.2.2.2.2.1 s.2.2.2.2.2.2))), (t, nm, s, D, H, ol, ct, k, y, si, fl, wi))
set_option maxRecDepth 10000 in
set_option maxHeartbeats 1000000 in
theorem k_X9_degree (t nm : zRw) (s D : zSh) (H : Nat → zSh) (ol ct : Int) (k : zKd) (y : zLy) (si fl wi : Int) (h : okC (t, nm, s, D, H, ol, ct, k, y, si, fl, wi)) (i : Int) (hi : zin i)  : zMet q_X9_degree 8 1 6 [zR 0, zI i] (wC t nm s D H ol ct k y si fl wi) (zX (cs_degree i (t, nm, s, D, H, ol, ct, k, y, si, fl, wi)).1 (wCS (cs_degree i (t, nm, s, D, H, ol, ct, k, y, si, fl, wi)).2)) := by
  refine z_introF (ls := [(0, _), (1, _)]) (by decide +kernel) rfl (fun _ _ => rfl) (fun _ _ => Nat.le_of_ble_eq_true rfl) ?_
  obtain ⟨hT9, hnm, hs9, hD9, hH9, hol, hct, hk9, hq9, hsi, hfl, hwi⟩ := id h
  obtain ⟨hT8, hT7, hT6⟩ := id hT9
  obtain ⟨z1, z2, zT1, z4, zF1, zL1⟩ := id hs9.1
  have zNm := hs9.2.1
  have zg := hs9.2.2.1
  have zm := hs9.2.2.2.1
  have hln := hs9.2.2.2.2
  have zQ1 := fun i h1 h2 => (zNm i h1 h2).2.1
  have zS : okS s := ⟨zm, zL1⟩
  refine wa_aload_n (pc' := 1) dX9_degree_0 rfl rfl rfl ?_
  refine wa_iload_n (pc' := 2) dX9_degree_1 rfl rfl rfl ?_
  refine wa_tR (pc' := 5) (k_X9_requireChord t nm s D H ol ct k y si fl wi (by assumption) i (by omega)) ok_X9_requireChord lm_X9_131 dX9_degree_2 rfl (wC_ok _ _ _ _ _ _ _ _ _ _ _ _) rfl rfl rfl rfl rfl (by decide) (Nat.le_of_ble_eq_true rfl) rfl (by decide) (by decide) rfl (fun h2 => by exact zX_e (c := (t, nm, s, D, H, ol, ct, k, y, si, fl, wi)) (by rw [cs_degree] <;> ((repeat (first | rw [if_pos (by omega)] | rw [if_neg (by omega)])) <;> rfl)) rfl) (fun h2 => ?_)
  show Wa _ _ _ _ _ _ _ _ [] _ _ _
  have e1 := zF1 (i * 5 + 2) (by omega) (by omega)
  refine wa_aload_n (pc' := 6) dX9_degree_5 rfl rfl rfl ?_
  refine wa_getfield (pc' := 9) (j := 2) zc_X9 lk_X9_22 dX9_degree_6 rfl (by decide) rfl rfl ?_
  refine wa_iload_n (pc' := 10) dX9_degree_9 rfl rfl rfl ?_
  refine wa_iconst (pc' := 11) dX9_degree_10 rfl ?_
  refine wa_rV (pc' := 14) (k_X8_get s.1 s.2.1 s.2.2.1 s.2.2.2.1 s.2.2.2.2.1 s.2.2.2.2.2.1 s.2.2.2.2.2.2 i 2 (by omega) (by omega)) ok_X8_get lm_X9_134 dX9_degree_11 rfl [5, 6, 7, 8] rfl (by decide) rfl rfl rfl rfl rfl (by decide) (Nat.le_of_ble_eq_true rfl) rfl (by decide) (by decide) rfl ?_
  refine wa_dS (pc' := 17) (w' := (_ :: _ :: _ :: _ :: _ :: _ :: _ :: _ :: _ :: _ :: _ :: _ :: _ :: _ :: _ :: _ :: _ :: _ :: _ :: _ :: _ :: _ :: _ :: _ :: _ :: _ :: _ :: _ :: _ :: _ :: _ :: _ :: _ :: _ :: _ :: _ :: _ :: _ :: _ :: _ :: _ :: _ :: _ :: _ :: _ :: _ :: _ :: _ :: _ :: _ :: _ :: _ :: _ :: [])) (k_X4_pitchClass (s.2.2.1 (i * 5 + 2)) (by omega)) ok_X4_pitchClass lm_X9_186 dX9_degree_14 rfl [] rfl (by decide) rfl rfl (by decide) (Nat.le_of_ble_eq_true rfl) rfl (by decide) (by decide) rfl rfl rfl ?_
  refine wa_istore_n (pc' := 18) (ls' := [(2, _), (0, _), (1, _)]) dX9_degree_17 rfl rfl (by decide) rfl ?_
  refine wa_iload_n (pc' := 19) dX9_degree_18 rfl rfl rfl ?_
  refine wa_aload_n (pc' := 20) dX9_degree_19 rfl rfl rfl ?_
  refine wa_getfield (pc' := 23) (j := 2) zc_X9 lk_X9_22 dX9_degree_20 rfl (by decide) rfl rfl ?_
  refine wa_getfieldN (pc' := 26) (j := 5) zc_X8 lk_X9_191 dX9_degree_23 rfl (by decide) rfl rfl ?_
  refine wa_aload_n (pc' := 27) dX9_degree_26 rfl rfl rfl ?_
  refine wa_getfield (pc' := 30) (j := 2) zc_X9 lk_X9_22 dX9_degree_27 rfl (by decide) rfl rfl ?_
  refine wa_getfieldN (pc' := 33) (j := 6) zc_X8 lk_X9_194 dX9_degree_30 rfl (by decide) rfl rfl ?_
  refine wa_dS (pc' := 36) (w' := (_ :: _ :: _ :: _ :: _ :: _ :: _ :: _ :: _ :: _ :: _ :: _ :: _ :: _ :: _ :: _ :: _ :: _ :: _ :: _ :: _ :: _ :: _ :: _ :: _ :: _ :: _ :: _ :: _ :: _ :: _ :: _ :: _ :: _ :: _ :: _ :: _ :: _ :: _ :: _ :: _ :: _ :: _ :: _ :: _ :: _ :: _ :: _ :: _ :: _ :: _ :: _ :: _ :: [])) (k_X2_degreeOf (pcl (s.2.2.1 (i * 5 + 2))) s.2.2.2.2.2.1 s.2.2.2.2.2.2 (pcl_b _) (by omega) (by omega)) ok_X2_degreeOf lm_X9_197 dX9_degree_33 rfl [] rfl (by decide) rfl rfl (by decide) (Nat.le_of_ble_eq_true rfl) rfl (by decide) (by decide) rfl rfl rfl ?_
  refine wa_iret dX9_degree_36 rfl (by decide) (by decide) ?_
  exact zX_e (c := (t, nm, s, D, H, ol, ct, k, y, si, fl, wi)) (by rw [cs_degree] <;> ((repeat (first | rw [if_pos (by omega)] | rw [if_neg (by omega)])) <;> rfl)) rfl

set_option maxRecDepth 10000 in
set_option maxHeartbeats 1000000 in
theorem k_X9_tonicD (t nm : zRw) (s D : zSh) (H : Nat → zSh) (ol ct : Int) (k : zKd) (y : zLy) (si fl wi : Int) (zm : s.2.2.2.2.2.2 = 0 ∨ s.2.2.2.2.2.2 = 1) : zMet q_X9_tonic 1 0 0 [zR 0] (wC t nm s D H ol ct k y si fl wi) (zD (some (zI (tonO s.2.2.2.2.2.1 s.2.2.2.2.2.2))) (wC t nm s D H ol ct k y si fl wi)) := by
  refine z_introF (ls := [(0, _)]) (by decide +kernel) rfl (fun _ _ => rfl) (fun _ _ => Nat.le_of_ble_eq_true rfl) ?_
  refine wa_aload_n (pc' := 1) dX9_tonic_0 rfl rfl rfl ?_
  refine wa_getfield (pc' := 4) (j := 2) zc_X9 lk_X9_22 dX9_tonic_1 rfl (by decide) rfl rfl ?_
  refine wa_getfieldN (pc' := 7) (j := 5) zc_X8 lk_X9_191 dX9_tonic_4 rfl (by decide) rfl rfl ?_
  refine wa_aload_n (pc' := 8) dX9_tonic_7 rfl rfl rfl ?_
  refine wa_getfield (pc' := 11) (j := 2) zc_X9 lk_X9_22 dX9_tonic_8 rfl (by decide) rfl rfl ?_
  refine wa_getfieldN (pc' := 14) (j := 6) zc_X8 lk_X9_194 dX9_tonic_11 rfl (by decide) rfl rfl ?_
  refine wa_dS (pc' := 17) (w' := (_ :: _ :: _ :: _ :: _ :: _ :: _ :: _ :: _ :: _ :: _ :: _ :: _ :: _ :: _ :: _ :: _ :: _ :: _ :: _ :: _ :: _ :: _ :: _ :: _ :: _ :: _ :: _ :: _ :: _ :: _ :: _ :: _ :: _ :: _ :: _ :: _ :: _ :: _ :: _ :: _ :: _ :: _ :: _ :: _ :: _ :: _ :: _ :: _ :: _ :: _ :: _ :: _ :: [])) (k_X2_tonicOf s.2.2.2.2.2.1 s.2.2.2.2.2.2 (by omega)) ok_X2_tonicOf lm_X9_201 dX9_tonic_14 rfl [] rfl (by decide) rfl rfl (by decide) (Nat.le_of_ble_eq_true rfl) rfl (by decide) (by decide) rfl rfl rfl ?_
  refine wa_iret dX9_tonic_17 rfl (by decide) (by decide) ?_
  exact zD_i rfl rfl

def cs_tonic : zCS → zP × zCS
  | (t, nm, s, D, H, ol, ct, k, y, si, fl, wi) => (.inl (some (zI (tonO s.2.2.2.2.2.1 s.2.2.2.2.2.2))), (t, nm, s, D, H, ol, ct, k, y, si, fl, wi))
theorem k_X9_tonic (t nm : zRw) (s D : zSh) (H : Nat → zSh) (ol ct : Int) (k : zKd) (y : zLy) (si fl wi : Int) (h : okC (t, nm, s, D, H, ol, ct, k, y, si, fl, wi)) : zMet q_X9_tonic 1 0 0 [zR 0] (wC t nm s D H ol ct k y si fl wi) (zX (cs_tonic (t, nm, s, D, H, ol, ct, k, y, si, fl, wi)).1 (wCS (cs_tonic (t, nm, s, D, H, ol, ct, k, y, si, fl, wi)).2)) := k_X9_tonicD t nm s D H ol ct k y si fl wi h.2.2.1.2.2.2.1
def cs_isMinor : zCS → zP × zCS
  | (t, nm, s, D, H, ol, ct, k, y, si, fl, wi) => (.inl (some (zI (s.2.2.2.2.2.2))), (t, nm, s, D, H, ol, ct, k, y, si, fl, wi))
set_option maxRecDepth 10000 in
set_option maxHeartbeats 1000000 in
theorem k_X9_isMinor (t nm : zRw) (s D : zSh) (H : Nat → zSh) (ol ct : Int) (k : zKd) (y : zLy) (si fl wi : Int) (h : okC (t, nm, s, D, H, ol, ct, k, y, si, fl, wi))   : zMet q_X9_isMinor 1 0 0 [zR 0] (wC t nm s D H ol ct k y si fl wi) (zX (cs_isMinor (t, nm, s, D, H, ol, ct, k, y, si, fl, wi)).1 (wCS (cs_isMinor (t, nm, s, D, H, ol, ct, k, y, si, fl, wi)).2)) := by
  refine z_introF (ls := [(0, _)]) (by decide +kernel) rfl (fun _ _ => rfl) (fun _ _ => Nat.le_of_ble_eq_true rfl) ?_
  obtain ⟨hT9, hnm, hs9, hD9, hH9, hol, hct, hk9, hq9, hsi, hfl, hwi⟩ := id h
  obtain ⟨hT8, hT7, hT6⟩ := id hT9
  obtain ⟨z1, z2, zT1, z4, zF1, zL1⟩ := id hs9.1
  have zNm := hs9.2.1
  have zg := hs9.2.2.1
  have zm := hs9.2.2.2.1
  have hln := hs9.2.2.2.2
  have zQ1 := fun i h1 h2 => (zNm i h1 h2).2.1
  have zS : okS s := ⟨zm, zL1⟩
  refine wa_aload_n (pc' := 1) dX9_isMinor_0 rfl rfl rfl ?_
  refine wa_getfield (pc' := 4) (j := 2) zc_X9 lk_X9_22 dX9_isMinor_1 rfl (by decide) rfl rfl ?_
  refine wa_getfieldN (pc' := 7) (j := 6) zc_X8 lk_X9_194 dX9_isMinor_4 rfl (by decide) rfl rfl ?_
  refine wa_zret dX9_isMinor_7 rfl (by decide) (by decide) (by omega) ?_
  exact zX_e (c := (t, nm, s, D, H, ol, ct, k, y, si, fl, wi)) (by rw [cs_isMinor] <;> ((repeat (first | rw [if_pos (by omega)] | rw [if_neg (by omega)])) <;> rfl)) rfl

def cs_signature : zCS → zP × zCS
  | (t, nm, s, D, H, ol, ct, k, y, si, fl, wi) => (.inl (some (zI (s.2.2.2.2.2.1))), (t, nm, s, D, H, ol, ct, k, y, si, fl, wi))
set_option maxRecDepth 10000 in
set_option maxHeartbeats 1000000 in
theorem k_X9_signature (t nm : zRw) (s D : zSh) (H : Nat → zSh) (ol ct : Int) (k : zKd) (y : zLy) (si fl wi : Int) (h : okC (t, nm, s, D, H, ol, ct, k, y, si, fl, wi))   : zMet q_X9_signature 1 0 0 [zR 0] (wC t nm s D H ol ct k y si fl wi) (zX (cs_signature (t, nm, s, D, H, ol, ct, k, y, si, fl, wi)).1 (wCS (cs_signature (t, nm, s, D, H, ol, ct, k, y, si, fl, wi)).2)) := by
  refine z_introF (ls := [(0, _)]) (by decide +kernel) rfl (fun _ _ => rfl) (fun _ _ => Nat.le_of_ble_eq_true rfl) ?_
  obtain ⟨hT9, hnm, hs9, hD9, hH9, hol, hct, hk9, hq9, hsi, hfl, hwi⟩ := id h
  obtain ⟨hT8, hT7, hT6⟩ := id hT9
  obtain ⟨z1, z2, zT1, z4, zF1, zL1⟩ := id hs9.1
  have zNm := hs9.2.1
  have zg := hs9.2.2.1
  have zm := hs9.2.2.2.1
  have hln := hs9.2.2.2.2
  have zQ1 := fun i h1 h2 => (zNm i h1 h2).2.1
  have zS : okS s := ⟨zm, zL1⟩
  refine wa_aload_n (pc' := 1) dX9_signature_0 rfl rfl rfl ?_
  refine wa_getfield (pc' := 4) (j := 2) zc_X9 lk_X9_22 dX9_signature_1 rfl (by decide) rfl rfl ?_
  refine wa_getfieldN (pc' := 7) (j := 5) zc_X8 lk_X9_191 dX9_signature_4 rfl (by decide) rfl rfl ?_
  refine wa_iret dX9_signature_7 rfl (by decide) (by decide) ?_
  exact zX_e (c := (t, nm, s, D, H, ol, ct, k, y, si, fl, wi)) (by rw [cs_signature] <;> ((repeat (first | rw [if_pos (by omega)] | rw [if_neg (by omega)])) <;> rfl)) rfl

def cs_setKey (p : Int) (b : Int) : zCS → zP × zCS
  | (t, nm, s, D, H, ol, ct, k, y, si, fl, wi) => if ¬ (-6 ≤ p - 3 * b ∧ p - 3 * b ≤ 6) then (.inr eIA, (t, nm, s, D, H, ol, ct, k, y, si, fl, wi)) else (.inl (some (zI (s.2.2.2.2.2.1))), (t, nm, (s.1, s.2.1, s.2.2.1, s.2.2.2.1, s.2.2.2.2.1, sigO p b, b), D, hup H ((ol + ct) % 8).toNat s, (if ct < 8 then ol else (ol + 1) % 8), (if ct < 8 then ct + 1 else ct), k, y, si, fl, wi))
set_option maxRecDepth 10000 in
set_option maxHeartbeats 1000000 in
theorem k_X9_setKey (t nm : zRw) (s D : zSh) (H : Nat → zSh) (ol ct : Int) (k : zKd) (y : zLy) (si fl wi : Int) (h : okC (t, nm, s, D, H, ol, ct, k, y, si, fl, wi)) (p : Int) (hp : zin p) (b : Int) (hb : b = 0 ∨ b = 1)  : zMet q_X9_setKey 8 1 6 [zR 0, zI p, zI b] (wC t nm s D H ol ct k y si fl wi) (zX (cs_setKey p b (t, nm, s, D, H, ol, ct, k, y, si, fl, wi)).1 (wCS (cs_setKey p b (t, nm, s, D, H, ol, ct, k, y, si, fl, wi)).2)) := by
  refine z_introF (ls := [(0, _), (1, _), (2, _)]) (by decide +kernel) rfl (fun _ _ => rfl) (fun _ _ => Nat.le_of_ble_eq_true rfl) ?_
  obtain ⟨hT9, hnm, hs9, hD9, hH9, hol, hct, hk9, hq9, hsi, hfl, hwi⟩ := id h
  obtain ⟨hT8, hT7, hT6⟩ := id hT9
  obtain ⟨z1, z2, zT1, z4, zF1, zL1⟩ := id hs9.1
  have zNm := hs9.2.1
  have zg := hs9.2.2.1
  have zm := hs9.2.2.2.1
  have hln := hs9.2.2.2.2
  have zQ1 := fun i h1 h2 => (zNm i h1 h2).2.1
  have zS : okS s := ⟨zm, zL1⟩
  refine wa_aload_n (pc' := 1) dX9_setKey_0 rfl rfl rfl ?_
  refine wa_iload_n (pc' := 2) dX9_setKey_1 rfl rfl rfl ?_
  refine wa_iload_n (pc' := 3) dX9_setKey_2 rfl rfl rfl ?_
  refine wa_tR (pc' := 6) (k_X9_requireTonic t nm s D H ol ct k y si fl wi (by assumption) p (by omega) b (by omega)) ok_X9_requireTonic lm_X9_205 dX9_setKey_3 rfl (wC_ok _ _ _ _ _ _ _ _ _ _ _ _) rfl rfl rfl rfl rfl (by decide) (Nat.le_of_ble_eq_true rfl) rfl (by decide) (by decide) rfl (fun h3 => by exact zX_e (c := (t, nm, s, D, H, ol, ct, k, y, si, fl, wi)) (by rw [cs_setKey] <;> ((repeat (first | rw [if_pos (by omega)] | rw [if_neg (by omega)])) <;> rfl)) rfl) (fun h3 => ?_)
  show Wa _ _ _ _ _ _ _ _ [] _ _ _
  refine wa_aload_n (pc' := 7) dX9_setKey_6 rfl rfl rfl ?_
  refine wa_getfield (pc' := 10) (j := 4) zc_X9 lk_X9_32 dX9_setKey_7 rfl (by decide) rfl rfl ?_
  refine wa_aload_n (pc' := 11) dX9_setKey_10 rfl rfl rfl ?_
  refine wa_getfield (pc' := 14) (j := 2) zc_X9 lk_X9_22 dX9_setKey_11 rfl (by decide) rfl rfl ?_
  refine wa_keepC (pc' := 17) (t := t) (nm := nm) (s := s) (D := D) (H := H) (ol := ol) (ct := ct) (k := k) (y := y) (si := si) (fl := fl) (wi := wi) (by omega) zS (by omega) lm_X9_93 dX9_setKey_14 rfl (by decide) (Nat.le_of_ble_eq_true rfl) rfl (by decide) (by decide) ?_
  refine wa_aload_n (pc' := 18) dX9_setKey_17 rfl rfl rfl ?_
  refine wa_getfield (pc' := 21) (j := 2) zc_X9 lk_X9_22 dX9_setKey_18 rfl (by decide) rfl rfl ?_
  refine wa_getfieldN (pc' := 24) (j := 5) zc_X8 lk_X9_191 dX9_setKey_21 rfl (by decide) rfl rfl ?_
  refine wa_istore_n (pc' := 25) (ls' := [(3, _), (0, _), (1, _), (2, _)]) dX9_setKey_24 rfl rfl (by decide) rfl ?_
  refine wa_aload_n (pc' := 26) dX9_setKey_25 rfl rfl rfl ?_
  refine wa_getfield (pc' := 29) (j := 2) zc_X9 lk_X9_22 dX9_setKey_26 rfl (by decide) rfl rfl ?_
  refine wa_iload_n (pc' := 30) dX9_setKey_29 rfl rfl rfl ?_
  refine wa_iload_n (pc' := 31) dX9_setKey_30 rfl rfl rfl ?_
  refine wa_dS (pc' := 34) (w' := (_ :: _ :: _ :: _ :: _ :: _ :: _ :: _ :: _ :: _ :: _ :: _ :: _ :: _ :: _ :: _ :: _ :: _ :: _ :: _ :: _ :: _ :: _ :: _ :: _ :: _ :: _ :: _ :: _ :: _ :: _ :: _ :: _ :: _ :: _ :: _ :: _ :: _ :: _ :: _ :: _ :: _ :: _ :: _ :: _ :: _ :: _ :: _ :: _ :: _ :: _ :: _ :: _ :: [])) (k_X2_signatureOf p b (by omega)) ok_X2_signatureOf lm_X9_209 dX9_setKey_31 rfl [] rfl (by decide) rfl rfl (by decide) (Nat.le_of_ble_eq_true rfl) rfl (by decide) (by decide) rfl rfl rfl ?_
  refine wa_putfieldN (pc' := 37) (j := 5) (w' := (_ :: _ :: _ :: _ :: _ :: zO _ [_, _, _, _, _, _, _] :: _ :: _ :: _ :: _ :: _ :: _ :: _ :: _ :: _ :: _ :: _ :: _ :: _ :: _ :: _ :: _ :: _ :: _ :: _ :: _ :: _ :: _ :: _ :: _ :: _ :: _ :: _ :: _ :: _ :: _ :: _ :: _ :: _ :: _ :: _ :: _ :: _ :: _ :: _ :: _ :: _ :: _ :: _ :: _ :: _ :: _ :: _ :: [])) zc_X8 lk_X9_191 dX9_setKey_34 rfl (by decide) rfl rfl (Nat.le_of_ble_eq_true rfl) True.intro rfl ?_
  refine wa_aload_n (pc' := 38) dX9_setKey_37 rfl rfl rfl ?_
  refine wa_getfield (pc' := 41) (j := 2) zc_X9 lk_X9_22 dX9_setKey_38 rfl (by decide) rfl rfl ?_
  refine wa_iload_n (pc' := 42) dX9_setKey_41 rfl rfl rfl ?_
  refine wa_putfieldN (pc' := 45) (j := 6) (w' := (_ :: _ :: _ :: _ :: _ :: zO _ [_, _, _, _, _, _, _] :: _ :: _ :: _ :: _ :: _ :: _ :: _ :: _ :: _ :: _ :: _ :: _ :: _ :: _ :: _ :: _ :: _ :: _ :: _ :: _ :: _ :: _ :: _ :: _ :: _ :: _ :: _ :: _ :: _ :: _ :: _ :: _ :: _ :: _ :: _ :: _ :: _ :: _ :: _ :: _ :: _ :: _ :: _ :: _ :: _ :: _ :: _ :: [])) zc_X8 lk_X9_194 dX9_setKey_42 rfl (by decide) rfl rfl (Nat.le_of_ble_eq_true rfl) (by show _ ∨ _; omega) rfl ?_
  refine wa_iload_n (pc' := 46) dX9_setKey_45 rfl rfl rfl ?_
  refine wa_iret dX9_setKey_46 rfl (by decide) (by decide) ?_
  exact zX_e (c := (t, nm, (s.1, s.2.1, s.2.2.1, s.2.2.2.1, s.2.2.2.2.1, sigO p b, b), D, hup H ((ol + ct) % 8).toNat s, (if ct < 8 then ol else (ol + 1) % 8), (if ct < 8 then ct + 1 else ct), k, y, si, fl, wi)) (by rw [cs_setKey] <;> ((repeat (first | rw [if_pos (by omega)] | rw [if_neg (by omega)])) <;> rfl)) rfl

def cs_score (p : Int) (b : Int) : zCS → zP × zCS
  | (t, nm, s, D, H, ol, ct, k, y, si, fl, wi) => if ¬ (-6 ≤ p - 3 * b ∧ p - 3 * b ≤ 6) then (.inr eIA, (t, nm, s, D, H, ol, ct, k, y, si, fl, wi)) else (.inl (some (zI (scF s.2.2.1 s.2.2.2.2.1 (sigO p b) b))), (t, nm, s, D, H, ol, ct, k, y, si, fl, wi))
set_option maxRecDepth 10000 in
set_option maxHeartbeats 1000000 in
theorem k_X9_score (t nm : zRw) (s D : zSh) (H : Nat → zSh) (ol ct : Int) (k : zKd) (y : zLy) (si fl wi : Int) (h : okC (t, nm, s, D, H, ol, ct, k, y, si, fl, wi)) (p : Int) (hp : zin p) (b : Int) (hb : b = 0 ∨ b = 1)  : zMet q_X9_score 8 1 6 [zR 0, zI p, zI b] (wC t nm s D H ol ct k y si fl wi) (zX (cs_score p b (t, nm, s, D, H, ol, ct, k, y, si, fl, wi)).1 (wCS (cs_score p b (t, nm, s, D, H, ol, ct, k, y, si, fl, wi)).2)) := by
  refine z_introF (ls := [(0, _), (1, _), (2, _)]) (by decide +kernel) rfl (fun _ _ => rfl) (fun _ _ => Nat.le_of_ble_eq_true rfl) ?_
  obtain ⟨hT9, hnm, hs9, hD9, hH9, hol, hct, hk9, hq9, hsi, hfl, hwi⟩ := id h
  obtain ⟨hT8, hT7, hT6⟩ := id hT9
  obtain ⟨z1, z2, zT1, z4, zF1, zL1⟩ := id hs9.1
  have zNm := hs9.2.1
  have zg := hs9.2.2.1
  have zm := hs9.2.2.2.1
  have hln := hs9.2.2.2.2
  have zQ1 := fun i h1 h2 => (zNm i h1 h2).2.1
  have zS : okS s := ⟨zm, zL1⟩
  refine wa_aload_n (pc' := 1) dX9_score_0 rfl rfl rfl ?_
  refine wa_iload_n (pc' := 2) dX9_score_1 rfl rfl rfl ?_
  refine wa_iload_n (pc' := 3) dX9_score_2 rfl rfl rfl ?_
  refine wa_tR (pc' := 6) (k_X9_requireTonic t nm s D H ol ct k y si fl wi (by assumption) p (by omega) b (by omega)) ok_X9_requireTonic lm_X9_205 dX9_score_3 rfl (wC_ok _ _ _ _ _ _ _ _ _ _ _ _) rfl rfl rfl rfl rfl (by decide) (Nat.le_of_ble_eq_true rfl) rfl (by decide) (by decide) rfl (fun h3 => by exact zX_e (c := (t, nm, s, D, H, ol, ct, k, y, si, fl, wi)) (by rw [cs_score] <;> ((repeat (first | rw [if_pos (by omega)] | rw [if_neg (by omega)])) <;> rfl)) rfl) (fun h3 => ?_)
  show Wa _ _ _ _ _ _ _ _ [] _ _ _
  refine wa_aload_n (pc' := 7) dX9_score_6 rfl rfl rfl ?_
  refine wa_getfield (pc' := 10) (j := 2) zc_X9 lk_X9_22 dX9_score_7 rfl (by decide) rfl rfl ?_
  refine wa_iload_n (pc' := 11) dX9_score_10 rfl rfl rfl ?_
  refine wa_iload_n (pc' := 12) dX9_score_11 rfl rfl rfl ?_
  refine wa_dS (pc' := 15) (w' := (_ :: _ :: _ :: _ :: _ :: _ :: _ :: _ :: _ :: _ :: _ :: _ :: _ :: _ :: _ :: _ :: _ :: _ :: _ :: _ :: _ :: _ :: _ :: _ :: _ :: _ :: _ :: _ :: _ :: _ :: _ :: _ :: _ :: _ :: _ :: _ :: _ :: _ :: _ :: _ :: _ :: _ :: _ :: _ :: _ :: _ :: _ :: _ :: _ :: _ :: _ :: _ :: _ :: [])) (k_X2_signatureOf p b (by omega)) ok_X2_signatureOf lm_X9_209 dX9_score_12 rfl [] rfl (by decide) rfl rfl (by decide) (Nat.le_of_ble_eq_true rfl) rfl (by decide) (by decide) rfl rfl rfl ?_
  refine wa_iload_n (pc' := 16) dX9_score_15 rfl rfl rfl ?_
  refine wa_rS (pc' := 19) (k_X2_scoreOf s.1 s.2.1 s.2.2.1 s.2.2.2.1 s.2.2.2.2.1 s.2.2.2.2.2.1 s.2.2.2.2.2.2 (sigO p b) b (by unfold sigO; split <;> omega) (by omega) (by omega) zF1 zQ1) ok_X2_scoreOf lm_X9_212 dX9_score_16 rfl [5, 6, 7, 8] rfl (by decide) rfl rfl (by decide) (Nat.le_of_ble_eq_true rfl) rfl (by decide) (by decide) rfl ?_
  refine wa_iret dX9_score_19 rfl (by decide) (by decide) ?_
  exact zX_e (c := (t, nm, s, D, H, ol, ct, k, y, si, fl, wi)) (by rw [cs_score] <;> ((repeat (first | rw [if_pos (by omega)] | rw [if_neg (by omega)])) <;> rfl)) rfl

def cs_findKey : zCS → zP × zCS
  | (t, nm, s, D, H, ol, ct, k, y, si, fl, wi) => (.inl (some (zI (beF s.2.2.1 s.2.2.2.2.1))), (t, nm, s, D, H, ol, ct, k, y, si, fl, wi))
set_option maxRecDepth 10000 in
set_option maxHeartbeats 1000000 in
theorem k_X9_findKey (t nm : zRw) (s D : zSh) (H : Nat → zSh) (ol ct : Int) (k : zKd) (y : zLy) (si fl wi : Int) (h : okC (t, nm, s, D, H, ol, ct, k, y, si, fl, wi))   : zMet q_X9_findKey 6 0 0 [zR 0] (wC t nm s D H ol ct k y si fl wi) (zX (cs_findKey (t, nm, s, D, H, ol, ct, k, y, si, fl, wi)).1 (wCS (cs_findKey (t, nm, s, D, H, ol, ct, k, y, si, fl, wi)).2)) := by
  refine z_introF (ls := [(0, _)]) (by decide +kernel) rfl (fun _ _ => rfl) (fun _ _ => Nat.le_of_ble_eq_true rfl) ?_
  obtain ⟨hT9, hnm, hs9, hD9, hH9, hol, hct, hk9, hq9, hsi, hfl, hwi⟩ := id h
  obtain ⟨hT8, hT7, hT6⟩ := id hT9
  obtain ⟨z1, z2, zT1, z4, zF1, zL1⟩ := id hs9.1
  have zNm := hs9.2.1
  have zg := hs9.2.2.1
  have zm := hs9.2.2.2.1
  have hln := hs9.2.2.2.2
  have zQ1 := fun i h1 h2 => (zNm i h1 h2).2.1
  have zS : okS s := ⟨zm, zL1⟩
  refine wa_aload_n (pc' := 1) dX9_findKey_0 rfl rfl rfl ?_
  refine wa_getfield (pc' := 4) (j := 2) zc_X9 lk_X9_22 dX9_findKey_1 rfl (by decide) rfl rfl ?_
  refine wa_rS (pc' := 7) (k_X2_best s.1 s.2.1 s.2.2.1 s.2.2.2.1 s.2.2.2.2.1 s.2.2.2.2.2.1 s.2.2.2.2.2.2 (by omega) zF1 zQ1) ok_X2_best lm_X9_99 dX9_findKey_4 rfl [5, 6, 7, 8] rfl (by decide) rfl rfl (by decide) (Nat.le_of_ble_eq_true rfl) rfl (by decide) (by decide) rfl ?_
  refine wa_iret dX9_findKey_7 rfl (by decide) (by decide) ?_
  exact zX_e (c := (t, nm, s, D, H, ol, ct, k, y, si, fl, wi)) (by rw [cs_findKey] <;> ((repeat (first | rw [if_pos (by omega)] | rw [if_neg (by omega)])) <;> rfl)) rfl

def cs_transpose (se : Int) : zCS → zP × zCS
  | (t, nm, s, D, H, ol, ct, k, y, si, fl, wi) => if se < -11 ∨ 11 < se then (.inr eIA, (t, nm, s, D, H, ol, ct, k, y, si, fl, wi)) else (.inl (some (zI (smS ((7 * tonO s.2.2.2.2.2.1 s.2.2.2.2.2.2 + se) % 12) s.2.2.2.2.2.2 fl))), (t, nm, (s.1, s.2.1, (spR se (smS ((7 * tonO s.2.2.2.2.2.1 s.2.2.2.2.2.2 + se) % 12) s.2.2.2.2.2.2 fl) si s.2.2.2.2.1.toNat 0 0 s.2.2.1).2, s.2.2.2.1, s.2.2.2.2.1, smS ((7 * tonO s.2.2.2.2.2.1 s.2.2.2.2.2.2 + se) % 12) s.2.2.2.2.2.2 fl, s.2.2.2.2.2.2), D, hup H ((ol + ct) % 8).toNat s, (if ct < 8 then ol else (ol + 1) % 8), (if ct < 8 then ct + 1 else ct), k, y, si, fl, wi))
set_option maxRecDepth 10000 in
set_option maxHeartbeats 1000000 in
theorem k_X9_transpose (t nm : zRw) (s D : zSh) (H : Nat → zSh) (ol ct : Int) (k : zKd) (y : zLy) (si fl wi : Int) (h : okC (t, nm, s, D, H, ol, ct, k, y, si, fl, wi)) (se : Int) (hse : zin se)  : zMet q_X9_transpose 7 1 6 [zR 0, zI se] (wC t nm s D H ol ct k y si fl wi) (zX (cs_transpose se (t, nm, s, D, H, ol, ct, k, y, si, fl, wi)).1 (wCS (cs_transpose se (t, nm, s, D, H, ol, ct, k, y, si, fl, wi)).2)) := by
  refine z_introF (ls := [(0, _), (1, _)]) (by decide +kernel) rfl (fun _ _ => rfl) (fun _ _ => Nat.le_of_ble_eq_true rfl) ?_
  obtain ⟨hT9, hnm, hs9, hD9, hH9, hol, hct, hk9, hq9, hsi, hfl, hwi⟩ := id h
  obtain ⟨hT8, hT7, hT6⟩ := id hT9
  obtain ⟨z1, z2, zT1, z4, zF1, zL1⟩ := id hs9.1
  have zNm := hs9.2.1
  have zg := hs9.2.2.1
  have zm := hs9.2.2.2.1
  have hln := hs9.2.2.2.2
  have zQ1 := fun i h1 h2 => (zNm i h1 h2).2.1
  have zS : okS s := ⟨zm, zL1⟩
  refine wa_iload_n (pc' := 1) dX9_transpose_0 rfl rfl rfl ?_
  refine wa_bipush (pc' := 3) dX9_transpose_1 rfl rfl ?_
  refine wa_icmp_lt (tgt := 12) (pc' := 6) dX9_transpose_3 (by decide) rfl (by omega) (by omega) (fun c3 => ?_) (fun c3 => ?_)
  · exact wa_throwS (text := "the semitones are not from -11 to 11") zx_X9_65_69 (by decide) dX9_transpose_12 dX9_transpose_15 dX9_transpose_16 dX9_transpose_18 dX9_transpose_21 rfl (by decide) (by decide) (by decide) (by decide) (by exact zX_e (c := (t, nm, s, D, H, ol, ct, k, y, si, fl, wi)) (by rw [cs_transpose] <;> ((repeat (first | rw [if_pos (by omega)] | rw [if_neg (by omega)])) <;> rfl)) rfl)
  · refine wa_iload_n (pc' := 7) dX9_transpose_6 rfl rfl rfl ?_
    refine wa_bipush (pc' := 9) dX9_transpose_7 rfl rfl ?_
    refine wa_icmp_le (tgt := 22) (pc' := 12) dX9_transpose_9 (by decide) rfl (by omega) (by omega) (fun c9 => ?_) (fun c9 => ?_)
    · refine wa_aload_n (pc' := 23) dX9_transpose_22 rfl rfl rfl ?_
      refine wa_getfield (pc' := 26) (j := 4) zc_X9 lk_X9_32 dX9_transpose_23 rfl (by decide) rfl rfl ?_
      refine wa_aload_n (pc' := 27) dX9_transpose_26 rfl rfl rfl ?_
      refine wa_getfield (pc' := 30) (j := 2) zc_X9 lk_X9_22 dX9_transpose_27 rfl (by decide) rfl rfl ?_
      refine wa_keepC (pc' := 33) (t := t) (nm := nm) (s := s) (D := D) (H := H) (ol := ol) (ct := ct) (k := k) (y := y) (si := si) (fl := fl) (wi := wi) (by omega) zS (by omega) lm_X9_93 dX9_transpose_30 rfl (by decide) (Nat.le_of_ble_eq_true rfl) rfl (by decide) (by decide) ?_
      refine wa_aload_n (pc' := 34) dX9_transpose_33 rfl rfl rfl ?_
      refine wa_rI (pc' := 37) (k_X9_tonicD _ _ _ _ _ _ _ _ _ _ _ _ zm) ok_X9_tonic lm_X9_218 dX9_transpose_34 rfl (wC_ok _ _ _ _ _ _ _ _ _ _ _ _) rfl rfl rfl rfl rfl (by decide) (Nat.le_of_ble_eq_true rfl) rfl (by decide) (by decide) rfl ?_
      show Wa _ _ _ _ _ _ _ _ [_] _ _ _
      refine wa_iload_n (pc' := 38) dX9_transpose_37 rfl rfl rfl ?_
      refine wa_dS (pc' := 41) (w' := (_ :: _ :: _ :: _ :: _ :: _ :: _ :: _ :: _ :: _ :: _ :: _ :: _ :: _ :: _ :: _ :: _ :: _ :: _ :: _ :: _ :: _ :: _ :: _ :: _ :: _ :: _ :: _ :: _ :: _ :: _ :: _ :: _ :: _ :: _ :: _ :: _ :: _ :: _ :: _ :: _ :: _ :: _ :: _ :: _ :: _ :: _ :: _ :: _ :: _ :: _ :: _ :: _ :: [])) (k_X4_raised (tonO s.2.2.2.2.2.1 s.2.2.2.2.2.2) se (by unfold tonO; split <;> omega) (by omega)) ok_X4_raised lm_X9_221 dX9_transpose_38 rfl [] rfl (by decide) rfl rfl (by decide) (Nat.le_of_ble_eq_true rfl) rfl (by decide) (by decide) rfl rfl rfl ?_
      refine wa_istore_n (pc' := 42) (ls' := [(2, _), (0, _), (1, _)]) dX9_transpose_41 rfl rfl (by decide) rfl ?_
      refine wa_aload_n (pc' := 43) dX9_transpose_42 rfl rfl rfl ?_
      refine wa_getfield (pc' := 46) (j := 2) zc_X9 lk_X9_22 dX9_transpose_43 rfl (by decide) rfl rfl ?_
      refine wa_iload_n (pc' := 47) dX9_transpose_46 rfl rfl rfl ?_
      refine wa_aload_n (pc' := 48) dX9_transpose_47 rfl rfl rfl ?_
      refine wa_getfield (pc' := 51) (j := 2) zc_X9 lk_X9_22 dX9_transpose_48 rfl (by decide) rfl rfl ?_
      refine wa_getfieldN (pc' := 54) (j := 6) zc_X8 lk_X9_194 dX9_transpose_51 rfl (by decide) rfl rfl ?_
      refine wa_aload_n (pc' := 55) dX9_transpose_54 rfl rfl rfl ?_
      refine wa_getfield (pc' := 58) (j := 8) zc_X9 lk_X9_58 dX9_transpose_55 rfl (by decide) rfl rfl ?_
      refine wa_dS (pc' := 61) (w' := (_ :: _ :: _ :: _ :: _ :: _ :: _ :: _ :: _ :: _ :: _ :: _ :: _ :: _ :: _ :: _ :: _ :: _ :: _ :: _ :: _ :: _ :: _ :: _ :: _ :: _ :: _ :: _ :: _ :: _ :: _ :: _ :: _ :: _ :: _ :: _ :: _ :: _ :: _ :: _ :: _ :: _ :: _ :: _ :: _ :: _ :: _ :: _ :: _ :: _ :: _ :: _ :: _ :: [])) (k_X2_simplestSignature ((7 * tonO s.2.2.2.2.2.1 s.2.2.2.2.2.2 + se) % 12) s.2.2.2.2.2.2 fl (by omega) (by omega) (by omega)) ok_X2_simplestSignature lm_X9_224 dX9_transpose_58 rfl [] rfl (by decide) rfl rfl (by decide) (Nat.le_of_ble_eq_true rfl) rfl (by decide) (by decide) rfl rfl rfl ?_
      refine wa_putfieldN (pc' := 64) (j := 5) (w' := (_ :: _ :: _ :: _ :: _ :: zO _ [_, _, _, _, _, _, _] :: _ :: _ :: _ :: _ :: _ :: _ :: _ :: _ :: _ :: _ :: _ :: _ :: _ :: _ :: _ :: _ :: _ :: _ :: _ :: _ :: _ :: _ :: _ :: _ :: _ :: _ :: _ :: _ :: _ :: _ :: _ :: _ :: _ :: _ :: _ :: _ :: _ :: _ :: _ :: _ :: _ :: _ :: _ :: _ :: _ :: _ :: _ :: [])) zc_X8 lk_X9_191 dX9_transpose_61 rfl (by decide) rfl rfl (Nat.le_of_ble_eq_true rfl) True.intro rfl ?_
      refine wa_aload_n (pc' := 65) dX9_transpose_64 rfl rfl rfl ?_
      refine wa_getfield (pc' := 68) (j := 2) zc_X9 lk_X9_22 dX9_transpose_65 rfl (by decide) rfl rfl ?_
      refine wa_iload_n (pc' := 69) dX9_transpose_68 rfl rfl rfl ?_
      refine wa_aload_n (pc' := 70) dX9_transpose_69 rfl rfl rfl ?_
      refine wa_getfield (pc' := 73) (j := 7) zc_X9 lk_X9_54 dX9_transpose_70 rfl (by decide) rfl rfl ?_
      refine wa_dV (pc' := 76) (w' := (_ :: _ :: _ :: _ :: _ :: zO _ [_, _, _, _, _, _, _] :: zA _ _ _ :: zA _ _ _ :: zA _ _ _ :: _ :: _ :: _ :: _ :: _ :: _ :: _ :: _ :: _ :: _ :: _ :: _ :: _ :: _ :: _ :: _ :: _ :: _ :: _ :: _ :: _ :: _ :: _ :: _ :: _ :: _ :: _ :: _ :: _ :: _ :: _ :: _ :: _ :: _ :: _ :: _ :: _ :: _ :: _ :: _ :: _ :: _ :: _ :: _ :: [])) (k_X8_spell s.1 s.2.1 s.2.2.1 s.2.2.2.1 s.2.2.2.2.1 (smS ((7 * tonO s.2.2.2.2.2.1 s.2.2.2.2.2.2 + se) % 12) s.2.2.2.2.2.2 fl) s.2.2.2.2.2.2 se si (by omega) (by omega) (smS_b (by omega)) (by omega) zF1) ok_X8_spell lm_X9_228 dX9_transpose_73 rfl [5, 6, 7, 8] rfl (by decide) rfl rfl rfl rfl rfl (by decide) (Nat.le_of_ble_eq_true rfl) rfl (by decide) (by decide) rfl rfl rfl ?_
      refine wa_pop (pc' := 77) dX9_transpose_76 rfl rfl ?_
      refine wa_aload_n (pc' := 78) dX9_transpose_77 rfl rfl rfl ?_
      refine wa_getfield (pc' := 81) (j := 2) zc_X9 lk_X9_22 dX9_transpose_78 rfl (by decide) rfl rfl ?_
      refine wa_getfieldN (pc' := 84) (j := 5) zc_X8 lk_X9_191 dX9_transpose_81 rfl (by decide) rfl rfl ?_
      refine wa_iret dX9_transpose_84 rfl (by decide) (by decide) ?_
      exact zX_e (c := (t, nm, (s.1, s.2.1, (spR se (smS ((7 * tonO s.2.2.2.2.2.1 s.2.2.2.2.2.2 + se) % 12) s.2.2.2.2.2.2 fl) si s.2.2.2.2.1.toNat 0 0 s.2.2.1).2, s.2.2.2.1, s.2.2.2.2.1, smS ((7 * tonO s.2.2.2.2.2.1 s.2.2.2.2.2.2 + se) % 12) s.2.2.2.2.2.2 fl, s.2.2.2.2.2.2), D, hup H ((ol + ct) % 8).toNat s, (if ct < 8 then ol else (ol + 1) % 8), (if ct < 8 then ct + 1 else ct), k, y, si, fl, wi)) (by rw [cs_transpose] <;> ((repeat (first | rw [if_pos (by omega)] | rw [if_neg (by omega)])) <;> rfl)) rfl
    · exact wa_throwS (text := "the semitones are not from -11 to 11") zx_X9_65_69 (by decide) dX9_transpose_12 dX9_transpose_15 dX9_transpose_16 dX9_transpose_18 dX9_transpose_21 rfl (by decide) (by decide) (by decide) (by decide) (by exact zX_e (c := (t, nm, s, D, H, ol, ct, k, y, si, fl, wi)) (by rw [cs_transpose] <;> ((repeat (first | rw [if_pos (by omega)] | rw [if_neg (by omega)])) <;> rfl)) rfl)

def cs_respell : zCS → zP × zCS
  | (t, nm, s, D, H, ol, ct, k, y, si, fl, wi) => (.inl (some (zI ((spR 0 s.2.2.2.2.2.1 si s.2.2.2.2.1.toNat 0 0 s.2.2.1).1))), (t, nm, (s.1, s.2.1, (spR 0 s.2.2.2.2.2.1 si s.2.2.2.2.1.toNat 0 0 s.2.2.1).2, s.2.2.2.1, s.2.2.2.2.1, s.2.2.2.2.2.1, s.2.2.2.2.2.2), D, hup H ((ol + ct) % 8).toNat s, (if ct < 8 then ol else (ol + 1) % 8), (if ct < 8 then ct + 1 else ct), k, y, si, fl, wi))
set_option maxRecDepth 10000 in
set_option maxHeartbeats 1000000 in
theorem k_X9_respell (t nm : zRw) (s D : zSh) (H : Nat → zSh) (ol ct : Int) (k : zKd) (y : zLy) (si fl wi : Int) (h : okC (t, nm, s, D, H, ol, ct, k, y, si, fl, wi))   : zMet q_X9_respell 5 0 0 [zR 0] (wC t nm s D H ol ct k y si fl wi) (zX (cs_respell (t, nm, s, D, H, ol, ct, k, y, si, fl, wi)).1 (wCS (cs_respell (t, nm, s, D, H, ol, ct, k, y, si, fl, wi)).2)) := by
  refine z_introF (ls := [(0, _)]) (by decide +kernel) rfl (fun _ _ => rfl) (fun _ _ => Nat.le_of_ble_eq_true rfl) ?_
  obtain ⟨hT9, hnm, hs9, hD9, hH9, hol, hct, hk9, hq9, hsi, hfl, hwi⟩ := id h
  obtain ⟨hT8, hT7, hT6⟩ := id hT9
  obtain ⟨z1, z2, zT1, z4, zF1, zL1⟩ := id hs9.1
  have zNm := hs9.2.1
  have zg := hs9.2.2.1
  have zm := hs9.2.2.2.1
  have hln := hs9.2.2.2.2
  have zQ1 := fun i h1 h2 => (zNm i h1 h2).2.1
  have zS : okS s := ⟨zm, zL1⟩
  refine wa_aload_n (pc' := 1) dX9_respell_0 rfl rfl rfl ?_
  refine wa_getfield (pc' := 4) (j := 4) zc_X9 lk_X9_32 dX9_respell_1 rfl (by decide) rfl rfl ?_
  refine wa_aload_n (pc' := 5) dX9_respell_4 rfl rfl rfl ?_
  refine wa_getfield (pc' := 8) (j := 2) zc_X9 lk_X9_22 dX9_respell_5 rfl (by decide) rfl rfl ?_
  refine wa_keepC (pc' := 11) (t := t) (nm := nm) (s := s) (D := D) (H := H) (ol := ol) (ct := ct) (k := k) (y := y) (si := si) (fl := fl) (wi := wi) (by omega) zS (by omega) lm_X9_93 dX9_respell_8 rfl (by decide) (Nat.le_of_ble_eq_true rfl) rfl (by decide) (by decide) ?_
  refine wa_aload_n (pc' := 12) dX9_respell_11 rfl rfl rfl ?_
  refine wa_getfield (pc' := 15) (j := 2) zc_X9 lk_X9_22 dX9_respell_12 rfl (by decide) rfl rfl ?_
  refine wa_iconst (pc' := 16) dX9_respell_15 rfl ?_
  refine wa_aload_n (pc' := 17) dX9_respell_16 rfl rfl rfl ?_
  refine wa_getfield (pc' := 20) (j := 7) zc_X9 lk_X9_54 dX9_respell_17 rfl (by decide) rfl rfl ?_
  refine wa_dV (pc' := 23) (w' := (_ :: _ :: _ :: _ :: _ :: zO _ [_, _, _, _, _, _, _] :: zA _ _ _ :: zA _ _ _ :: zA _ _ _ :: _ :: _ :: _ :: _ :: _ :: _ :: _ :: _ :: _ :: _ :: _ :: _ :: _ :: _ :: _ :: _ :: _ :: _ :: _ :: _ :: _ :: _ :: _ :: _ :: _ :: _ :: _ :: _ :: _ :: _ :: _ :: _ :: _ :: _ :: _ :: _ :: _ :: _ :: _ :: _ :: _ :: _ :: _ :: _ :: [])) (k_X8_spell s.1 s.2.1 s.2.2.1 s.2.2.2.1 s.2.2.2.2.1 s.2.2.2.2.2.1 s.2.2.2.2.2.2 0 si (by omega) (by omega) (by omega) (by omega) zF1) ok_X8_spell lm_X9_228 dX9_respell_20 rfl [5, 6, 7, 8] rfl (by decide) rfl rfl rfl rfl rfl (by decide) (Nat.le_of_ble_eq_true rfl) rfl (by decide) (by decide) rfl rfl rfl ?_
  refine wa_iret dX9_respell_23 rfl (by decide) (by decide) ?_
  exact zX_e (c := (t, nm, (s.1, s.2.1, (spR 0 s.2.2.2.2.2.1 si s.2.2.2.2.1.toNat 0 0 s.2.2.1).2, s.2.2.2.1, s.2.2.2.2.1, s.2.2.2.2.2.1, s.2.2.2.2.2.2), D, hup H ((ol + ct) % 8).toNat s, (if ct < 8 then ol else (ol + 1) % 8), (if ct < 8 then ct + 1 else ct), k, y, si, fl, wi)) (by rw [cs_respell] <;> ((repeat (first | rw [if_pos (by omega)] | rw [if_neg (by omega)])) <;> rfl)) rfl

def cs_difficulty (f : Int) : zCS → zP × zCS
  | (t, nm, s, D, H, ol, ct, k, y, si, fl, wi) => if f < 0 ∨ 7 < f then (.inr eIA, (t, nm, s, D, H, ol, ct, k, y, si, fl, wi)) else (.inl (some (zI (dfF s.2.2.1 s.2.2.2.2.1 f))), (t, nm, s, D, H, ol, ct, k, y, si, fl, wi))
set_option maxRecDepth 10000 in
set_option maxHeartbeats 1000000 in
theorem k_X9_difficulty (t nm : zRw) (s D : zSh) (H : Nat → zSh) (ol ct : Int) (k : zKd) (y : zLy) (si fl wi : Int) (h : okC (t, nm, s, D, H, ol, ct, k, y, si, fl, wi)) (f : Int) (hf : zin f)  : zMet q_X9_difficulty 7 1 6 [zR 0, zI f] (wC t nm s D H ol ct k y si fl wi) (zX (cs_difficulty f (t, nm, s, D, H, ol, ct, k, y, si, fl, wi)).1 (wCS (cs_difficulty f (t, nm, s, D, H, ol, ct, k, y, si, fl, wi)).2)) := by
  refine z_introF (ls := [(0, _), (1, _)]) (by decide +kernel) rfl (fun _ _ => rfl) (fun _ _ => Nat.le_of_ble_eq_true rfl) ?_
  obtain ⟨hT9, hnm, hs9, hD9, hH9, hol, hct, hk9, hq9, hsi, hfl, hwi⟩ := id h
  obtain ⟨hT8, hT7, hT6⟩ := id hT9
  obtain ⟨z1, z2, zT1, z4, zF1, zL1⟩ := id hs9.1
  have zNm := hs9.2.1
  have zg := hs9.2.2.1
  have zm := hs9.2.2.2.1
  have hln := hs9.2.2.2.2
  have zQ1 := fun i h1 h2 => (zNm i h1 h2).2.1
  have zS : okS s := ⟨zm, zL1⟩
  refine wa_iload_n (pc' := 1) dX9_difficulty_0 rfl rfl rfl ?_
  refine wa_if_lt (tgt := 10) (pc' := 4) dX9_difficulty_1 (by decide) rfl (by omega) (fun c1 => ?_) (fun c1 => ?_)
  · exact wa_throwS (text := "the fret is not from 0 to 7") zx_X9_65_69 (by decide) dX9_difficulty_10 dX9_difficulty_13 dX9_difficulty_14 dX9_difficulty_16 dX9_difficulty_19 rfl (by decide) (by decide) (by decide) (by decide) (by exact zX_e (c := (t, nm, s, D, H, ol, ct, k, y, si, fl, wi)) (by rw [cs_difficulty] <;> ((repeat (first | rw [if_pos (by omega)] | rw [if_neg (by omega)])) <;> rfl)) rfl)
  · refine wa_iload_n (pc' := 5) dX9_difficulty_4 rfl rfl rfl ?_
    refine wa_bipush (pc' := 7) dX9_difficulty_5 rfl rfl ?_
    refine wa_icmp_le (tgt := 20) (pc' := 10) dX9_difficulty_7 (by decide) rfl (by omega) (by omega) (fun c7 => ?_) (fun c7 => ?_)
    · refine wa_aload_n (pc' := 21) dX9_difficulty_20 rfl rfl rfl ?_
      refine wa_getfield (pc' := 24) (j := 2) zc_X9 lk_X9_22 dX9_difficulty_21 rfl (by decide) rfl rfl ?_
      refine wa_iload_n (pc' := 25) dX9_difficulty_24 rfl rfl rfl ?_
      refine wa_rS (pc' := 28) (k_X0_difficultyAt s.1 s.2.1 s.2.2.1 s.2.2.2.1 s.2.2.2.2.1 s.2.2.2.2.2.1 s.2.2.2.2.2.2 f (by omega) (by omega) zF1 zQ1) ok_X0_difficultyAt lm_X9_233 dX9_difficulty_25 rfl [5, 6, 7, 8] rfl (by decide) rfl rfl (by decide) (Nat.le_of_ble_eq_true rfl) rfl (by decide) (by decide) rfl ?_
      refine wa_iret dX9_difficulty_28 rfl (by decide) (by decide) ?_
      exact zX_e (c := (t, nm, s, D, H, ol, ct, k, y, si, fl, wi)) (by rw [cs_difficulty] <;> ((repeat (first | rw [if_pos (by omega)] | rw [if_neg (by omega)])) <;> rfl)) rfl
    · exact wa_throwS (text := "the fret is not from 0 to 7") zx_X9_65_69 (by decide) dX9_difficulty_10 dX9_difficulty_13 dX9_difficulty_14 dX9_difficulty_16 dX9_difficulty_19 rfl (by decide) (by decide) (by decide) (by decide) (by exact zX_e (c := (t, nm, s, D, H, ol, ct, k, y, si, fl, wi)) (by rw [cs_difficulty] <;> ((repeat (first | rw [if_pos (by omega)] | rw [if_neg (by omega)])) <;> rfl)) rfl)

def cs_bestCapo : zCS → zP × zCS
  | (t, nm, s, D, H, ol, ct, k, y, si, fl, wi) => (.inl (some (zI (efF s.2.2.1 s.2.2.2.2.1))), (t, nm, s, D, H, ol, ct, k, y, si, fl, wi))
set_option maxRecDepth 10000 in
set_option maxHeartbeats 1000000 in
theorem k_X9_bestCapo (t nm : zRw) (s D : zSh) (H : Nat → zSh) (ol ct : Int) (k : zKd) (y : zLy) (si fl wi : Int) (h : okC (t, nm, s, D, H, ol, ct, k, y, si, fl, wi))   : zMet q_X9_bestCapo 5 0 0 [zR 0] (wC t nm s D H ol ct k y si fl wi) (zX (cs_bestCapo (t, nm, s, D, H, ol, ct, k, y, si, fl, wi)).1 (wCS (cs_bestCapo (t, nm, s, D, H, ol, ct, k, y, si, fl, wi)).2)) := by
  refine z_introF (ls := [(0, _)]) (by decide +kernel) rfl (fun _ _ => rfl) (fun _ _ => Nat.le_of_ble_eq_true rfl) ?_
  obtain ⟨hT9, hnm, hs9, hD9, hH9, hol, hct, hk9, hq9, hsi, hfl, hwi⟩ := id h
  obtain ⟨hT8, hT7, hT6⟩ := id hT9
  obtain ⟨z1, z2, zT1, z4, zF1, zL1⟩ := id hs9.1
  have zNm := hs9.2.1
  have zg := hs9.2.2.1
  have zm := hs9.2.2.2.1
  have hln := hs9.2.2.2.2
  have zQ1 := fun i h1 h2 => (zNm i h1 h2).2.1
  have zS : okS s := ⟨zm, zL1⟩
  refine wa_aload_n (pc' := 1) dX9_bestCapo_0 rfl rfl rfl ?_
  refine wa_getfield (pc' := 4) (j := 2) zc_X9 lk_X9_22 dX9_bestCapo_1 rfl (by decide) rfl rfl ?_
  refine wa_rS (pc' := 7) (k_X0_easiestFret s.1 s.2.1 s.2.2.1 s.2.2.2.1 s.2.2.2.2.1 s.2.2.2.2.2.1 s.2.2.2.2.2.2 (by omega) zF1 zQ1) ok_X0_easiestFret lm_X9_239 dX9_bestCapo_4 rfl [5, 6, 7, 8] rfl (by decide) rfl rfl (by decide) (Nat.le_of_ble_eq_true rfl) rfl (by decide) (by decide) rfl ?_
  refine wa_iret dX9_bestCapo_7 rfl (by decide) (by decide) ?_
  exact zX_e (c := (t, nm, s, D, H, ol, ct, k, y, si, fl, wi)) (by rw [cs_bestCapo] <;> ((repeat (first | rw [if_pos (by omega)] | rw [if_neg (by omega)])) <;> rfl)) rfl

def cs_pairs (l : Int) : zCS → zP × zCS
  | (t, nm, s, D, H, ol, ct, k, y, si, fl, wi) => if ¬ (0 ≤ l ∧ l < s.2.2.2.1) then (.inr eIO, (t, nm, s, D, H, ol, ct, k, y, si, fl, wi)) else (.inl (some (zI ((cntP s 201 0 (staL s y l wi)).1))), (t, nm, s, D, H, ol, ct, k, (cntP s 201 0 (staL s y l wi)).2, si, fl, wi))
set_option maxRecDepth 10000 in
set_option maxHeartbeats 1000000 in
theorem k_X9_pairs (t nm : zRw) (s D : zSh) (H : Nat → zSh) (ol ct : Int) (k : zKd) (y : zLy) (si fl wi : Int) (h : okC (t, nm, s, D, H, ol, ct, k, y, si, fl, wi)) (l : Int) (hl : zin l)  : zMet q_X9_pairs 9 1 6 [zR 0, zI l] (wC t nm s D H ol ct k y si fl wi) (zX (cs_pairs l (t, nm, s, D, H, ol, ct, k, y, si, fl, wi)).1 (wCS (cs_pairs l (t, nm, s, D, H, ol, ct, k, y, si, fl, wi)).2)) := by
  refine z_introF (ls := [(0, _), (1, _)]) (by decide +kernel) rfl (fun _ _ => rfl) (fun _ _ => Nat.le_of_ble_eq_true rfl) ?_
  obtain ⟨hT9, hnm, hs9, hD9, hH9, hol, hct, hk9, hq9, hsi, hfl, hwi⟩ := id h
  obtain ⟨hT8, hT7, hT6⟩ := id hT9
  obtain ⟨z1, z2, zT1, z4, zF1, zL1⟩ := id hs9.1
  have zNm := hs9.2.1
  have zg := hs9.2.2.1
  have zm := hs9.2.2.2.1
  have hln := hs9.2.2.2.2
  have zQ1 := fun i h1 h2 => (zNm i h1 h2).2.1
  have zS : okS s := ⟨zm, zL1⟩
  refine wa_aload_n (pc' := 1) dX9_pairs_0 rfl rfl rfl ?_
  refine wa_iload_n (pc' := 2) dX9_pairs_1 rfl rfl rfl ?_
  refine wa_tR (pc' := 5) (k_X9_requireLine t nm s D H ol ct k y si fl wi (by assumption) l (by omega)) ok_X9_requireLine lm_X9_115 dX9_pairs_2 rfl (wC_ok _ _ _ _ _ _ _ _ _ _ _ _) rfl rfl rfl rfl rfl (by decide) (Nat.le_of_ble_eq_true rfl) rfl (by decide) (by decide) rfl (fun h2 => by exact zX_e (c := (t, nm, s, D, H, ol, ct, k, y, si, fl, wi)) (by rw [cs_pairs] <;> ((repeat (first | rw [if_pos (by omega)] | rw [if_neg (by omega)])) <;> rfl)) rfl) (fun h2 => ?_)
  show Wa _ _ _ _ _ _ _ _ [] _ _ _
  refine wa_aload_n (pc' := 6) dX9_pairs_5 rfl rfl rfl ?_
  refine wa_getfield (pc' := 9) (j := 6) zc_X9 lk_X9_50 dX9_pairs_6 rfl (by decide) rfl rfl ?_
  refine wa_iload_n (pc' := 10) dX9_pairs_9 rfl rfl rfl ?_
  refine wa_aload_n (pc' := 11) dX9_pairs_10 rfl rfl rfl ?_
  refine wa_getfield (pc' := 14) (j := 9) zc_X9 lk_X9_61 dX9_pairs_11 rfl (by decide) rfl rfl ?_
  refine wa_dV (pc' := 17) (w' := (_ :: _ :: _ :: _ :: _ :: zO _ [_, _, _, _, _, _, _] :: zA _ _ _ :: zA _ _ _ :: zA _ _ _ :: _ :: _ :: _ :: _ :: _ :: _ :: _ :: _ :: _ :: _ :: _ :: _ :: _ :: _ :: _ :: _ :: _ :: _ :: _ :: _ :: _ :: _ :: _ :: _ :: _ :: _ :: _ :: _ :: _ :: _ :: _ :: _ :: _ :: _ :: _ :: _ :: _ :: _ :: _ :: zO _ [_, _, _, _, _, _, _, _, _, _, _] :: zO _ [_, _] :: zA _ _ _ :: zO _ [_, _] :: zA _ _ _ :: [])) (k_X3_countPairs s y l wi (by omega) (by omega) hq9 (by omega) (by omega) zNm zT1 zF1 zL1) ok_X3_countPairs lm_X9_242 dX9_pairs_14 rfl [48, 5, 6, 7, 8, 49, 50, 51, 52] rfl (by decide) rfl rfl rfl rfl rfl (by decide) (Nat.le_of_ble_eq_true rfl) rfl (by decide) (by decide) rfl rfl rfl ?_
  refine wa_iret dX9_pairs_17 rfl (by decide) (by decide) ?_
  exact zX_e (c := (t, nm, s, D, H, ol, ct, k, (cntP s 201 0 (staL s y l wi)).2, si, fl, wi)) (by rw [cs_pairs] <;> ((repeat (first | rw [if_pos (by omega)] | rw [if_neg (by omega)])) <;> rfl)) rfl

def cs_read : zCS → zP × zCS
  | (t, nm, s, D, H, ol, ct, k, y, si, fl, wi) => if ¬ ((rdS (gT t) t.1 (t.1.toNat + 1) 0 (shClr D) k).1 = -1) then (.inl (some (zI (-1 - (rdS (gT t) t.1 (t.1.toNat + 1) 0 (shClr D) k).1))), (t, nm, s, (rdS (gT t) t.1 (t.1.toNat + 1) 0 (shClr D) k).2.1, H, ol, ct, (rdS (gT t) t.1 (t.1.toNat + 1) 0 (shClr D) k).2.2, y, si, fl, wi)) else (.inl (some (zI ((rdS (gT t) t.1 (t.1.toNat + 1) 0 (shClr D) k).2.1.2.2.2.2.1))), (rC t 0, nm, tkS (beF (rdS (gT t) t.1 (t.1.toNat + 1) 0 (shClr D) k).2.1.2.2.1 (rdS (gT t) t.1 (t.1.toNat + 1) 0 (shClr D) k).2.1.2.2.2.2.1) (rdS (gT t) t.1 (t.1.toNat + 1) 0 (shClr D) k).2.1, (rdS (gT t) t.1 (t.1.toNat + 1) 0 (shClr D) k).2.1, hup H ((ol + ct) % 8).toNat s, (if ct < 8 then ol else (ol + 1) % 8), (if ct < 8 then ct + 1 else ct), (rdS (gT t) t.1 (t.1.toNat + 1) 0 (shClr D) k).2.2, y, si, fl, wi))
set_option maxRecDepth 10000 in
set_option maxHeartbeats 1000000 in
theorem k_X9_read (t nm : zRw) (s D : zSh) (H : Nat → zSh) (ol ct : Int) (k : zKd) (y : zLy) (si fl wi : Int) (h : okC (t, nm, s, D, H, ol, ct, k, y, si, fl, wi))  (hR : (-1 ≤ (rdS (gT t) t.1 (t.1.toNat + 1) 0 (shClr D) k).1 ∧ (rdS (gT t) t.1 (t.1.toNat + 1) 0 (shClr D) k).1 ≤ 1000) ∧ okD 200 (rdS (gT t) t.1 (t.1.toNat + 1) 0 (shClr D) k).2.1 ∧ okN (rdS (gT t) t.1 (t.1.toNat + 1) 0 (shClr D) k).2.1 ∧ okS (rdS (gT t) t.1 (t.1.toNat + 1) 0 (shClr D) k).2.1) : zMet q_X9_read 8 0 0 [zR 0] (wC t nm s D H ol ct k y si fl wi) (zX (cs_read (t, nm, s, D, H, ol, ct, k, y, si, fl, wi)).1 (wCS (cs_read (t, nm, s, D, H, ol, ct, k, y, si, fl, wi)).2)) := by
  refine z_introF (ls := [(0, _)]) (by decide +kernel) rfl (fun _ _ => rfl) (fun _ _ => Nat.le_of_ble_eq_true rfl) ?_
  obtain ⟨hT9, hnm, hs9, hD9, hH9, hol, hct, hk9, hq9, hsi, hfl, hwi⟩ := id h
  obtain ⟨hT8, hT7, hT6⟩ := id hT9
  obtain ⟨z1, z2, zT1, z4, zF1, zL1⟩ := id hs9.1
  have zNm := hs9.2.1
  have zg := hs9.2.2.1
  have zm := hs9.2.2.2.1
  have hln := hs9.2.2.2.2
  have zQ1 := fun i h1 h2 => (zNm i h1 h2).2.1
  have zS : okS s := ⟨zm, zL1⟩
  obtain ⟨hR1, ⟨y1, y2, yT, y4, yF, yL⟩, yN, yS⟩ := hR
  have yQ := fun i h1 h2 => (yN i h1 h2).2.1
  refine wa_aload_n (pc' := 1) dX9_read_0 rfl rfl rfl ?_
  refine wa_getfield (pc' := 4) (j := 5) zc_X9 lk_X9_41 dX9_read_1 rfl (by decide) rfl rfl ?_
  refine wa_aload_n (pc' := 5) dX9_read_4 rfl rfl rfl ?_
  refine wa_getfield (pc' := 8) (j := 3) zc_X9 lk_X9_26 dX9_read_5 rfl (by decide) rfl rfl ?_
  refine wa_dV (pc' := 11) (w' := (_ :: zO _ [_, _] :: zA _ _ _ :: _ :: _ :: _ :: _ :: _ :: _ :: zO _ [_, _, _, _, _, _, _] :: zA _ _ _ :: zA _ _ _ :: zA _ _ _ :: _ :: _ :: _ :: _ :: _ :: _ :: _ :: _ :: _ :: _ :: _ :: _ :: _ :: _ :: _ :: _ :: _ :: _ :: _ :: _ :: _ :: _ :: _ :: _ :: _ :: _ :: _ :: _ :: _ :: _ :: _ :: _ :: _ :: _ :: zO _ [_, _, _, _, _, _] :: _ :: _ :: _ :: _ :: _ :: [])) (k_X6_readSheet t k D hT9 hD9.1 hk9) ok_X6_readSheet lm_X9_89 dX9_read_8 rfl [47, 1, 2, 9, 10, 11, 12] rfl (by decide) rfl rfl rfl rfl rfl (by decide) (Nat.le_of_ble_eq_true rfl) rfl (by decide) (by decide) rfl rfl rfl ?_
  refine wa_istore_n (pc' := 12) (ls' := [(1, _), (0, _)]) dX9_read_11 rfl rfl (by decide) rfl ?_
  refine wa_iload_n (pc' := 13) dX9_read_12 rfl rfl rfl ?_
  refine wa_iconst (pc' := 14) dX9_read_13 rfl ?_
  refine wa_icmp_eq (tgt := 21) (pc' := 17) dX9_read_14 (by decide) rfl (by omega) (by omega) (fun c14 => ?_) (fun c14 => ?_)
  · refine wa_aload_n (pc' := 22) dX9_read_21 rfl rfl rfl ?_
    refine wa_getfield (pc' := 25) (j := 4) zc_X9 lk_X9_32 dX9_read_22 rfl (by decide) rfl rfl ?_
    refine wa_aload_n (pc' := 26) dX9_read_25 rfl rfl rfl ?_
    refine wa_getfield (pc' := 29) (j := 2) zc_X9 lk_X9_22 dX9_read_26 rfl (by decide) rfl rfl ?_
    refine wa_keepC (pc' := 32) (t := t) (nm := nm) (s := s) (D := (rdS (gT t) t.1 (t.1.toNat + 1) 0 (shClr D) k).2.1) (H := H) (ol := ol) (ct := ct) (k := (rdS (gT t) t.1 (t.1.toNat + 1) 0 (shClr D) k).2.2) (y := y) (si := si) (fl := fl) (wi := wi) (by omega) zS (by omega) lm_X9_93 dX9_read_29 rfl (by decide) (Nat.le_of_ble_eq_true rfl) rfl (by decide) (by decide) ?_
    refine wa_aload_n (pc' := 33) dX9_read_32 rfl rfl rfl ?_
    refine wa_getfield (pc' := 36) (j := 2) zc_X9 lk_X9_22 dX9_read_33 rfl (by decide) rfl rfl ?_
    refine wa_aload_n (pc' := 37) dX9_read_36 rfl rfl rfl ?_
    refine wa_getfield (pc' := 40) (j := 3) zc_X9 lk_X9_26 dX9_read_37 rfl (by decide) rfl rfl ?_
    refine wa_dV (pc' := 43) (w' := (_ :: _ :: _ :: _ :: _ :: zO _ [_, _, _, _, _, _, _] :: zA _ _ _ :: zA _ _ _ :: zA _ _ _ :: zO _ [_, _, _, _, _, _, _] :: zA _ _ _ :: zA _ _ _ :: zA _ _ _ :: _ :: _ :: _ :: _ :: _ :: _ :: _ :: _ :: _ :: _ :: _ :: _ :: _ :: _ :: _ :: _ :: _ :: _ :: _ :: _ :: _ :: _ :: _ :: _ :: _ :: _ :: _ :: _ :: _ :: _ :: _ :: _ :: _ :: _ :: _ :: _ :: _ :: _ :: _ :: _ :: [])) (k_X8_copyFrom _ _ _ _ _ _ _ _ _ _ _ _ _ _ yS.1 yS.2) ok_X8_copyFrom lm_X9_96 dX9_read_40 rfl [5, 6, 7, 8, 9, 10, 11, 12] rfl (by decide) rfl rfl rfl rfl rfl (by decide) (Nat.le_of_ble_eq_true rfl) rfl (by decide) (by decide) rfl rfl rfl ?_
    refine wa_aload_n (pc' := 44) dX9_read_43 rfl rfl rfl ?_
    refine wa_aload_n (pc' := 45) dX9_read_44 rfl rfl rfl ?_
    refine wa_getfield (pc' := 48) (j := 2) zc_X9 lk_X9_22 dX9_read_45 rfl (by decide) rfl rfl ?_
    refine wa_rS (pc' := 51) (k_X2_best (rdS (gT t) t.1 (t.1.toNat + 1) 0 (shClr D) k).2.1.1 (rdS (gT t) t.1 (t.1.toNat + 1) 0 (shClr D) k).2.1.2.1 (rdS (gT t) t.1 (t.1.toNat + 1) 0 (shClr D) k).2.1.2.2.1 (rdS (gT t) t.1 (t.1.toNat + 1) 0 (shClr D) k).2.1.2.2.2.1 (rdS (gT t) t.1 (t.1.toNat + 1) 0 (shClr D) k).2.1.2.2.2.2.1 (rdS (gT t) t.1 (t.1.toNat + 1) 0 (shClr D) k).2.1.2.2.2.2.2.1 (rdS (gT t) t.1 (t.1.toNat + 1) 0 (shClr D) k).2.1.2.2.2.2.2.2 (by omega) yF yQ) ok_X2_best lm_X9_99 dX9_read_48 rfl [5, 6, 7, 8] rfl (by decide) rfl rfl (by decide) (Nat.le_of_ble_eq_true rfl) rfl (by decide) (by decide) rfl ?_
    refine wa_iD (pc' := 54) (k_X9_takeKey t nm (rdS (gT t) t.1 (t.1.toNat + 1) 0 (shClr D) k).2.1 (rdS (gT t) t.1 (t.1.toNat + 1) 0 (shClr D) k).2.1 (hup H ((ol + ct) % 8).toNat s) (if ct < 8 then ol else (ol + 1) % 8) (if ct < 8 then ct + 1 else ct) (rdS (gT t) t.1 (t.1.toNat + 1) 0 (shClr D) k).2.2 y si fl wi (beF (rdS (gT t) t.1 (t.1.toNat + 1) 0 (shClr D) k).2.1.2.2.1 (rdS (gT t) t.1 (t.1.toNat + 1) 0 (shClr D) k).2.1.2.2.2.2.1) (by have := beF_b (rdS (gT t) t.1 (t.1.toNat + 1) 0 (shClr D) k).2.1.2.2.1 (rdS (gT t) t.1 (t.1.toNat + 1) 0 (shClr D) k).2.1.2.2.2.2.1; omega)) ok_X9_takeKey lm_X9_104 dX9_read_51 rfl (wC_ok _ _ _ _ _ _ _ _ _ _ _ _) rfl (wC_ok _ _ _ _ _ _ _ _ _ _ _ _) rfl rfl rfl rfl rfl (by decide) (Nat.le_of_ble_eq_true rfl) rfl (by decide) (by decide) rfl ?_
    show Wa _ _ _ _ _ _ _ _ [] _ _ _
    refine wa_aload_n (pc' := 55) dX9_read_54 rfl rfl rfl ?_
    refine wa_getfield (pc' := 58) (j := 0) zc_X9 lk_X9_10 dX9_read_55 rfl (by decide) rfl rfl ?_
    refine wa_iconst (pc' := 59) dX9_read_58 rfl ?_
    refine wa_dV (pc' := 62) (w' := (_ :: zO _ [_, _] :: zA _ _ _ :: _ :: _ :: _ :: _ :: _ :: _ :: _ :: _ :: _ :: _ :: _ :: _ :: _ :: _ :: _ :: _ :: _ :: _ :: _ :: _ :: _ :: _ :: _ :: _ :: _ :: _ :: _ :: _ :: _ :: _ :: _ :: _ :: _ :: _ :: _ :: _ :: _ :: _ :: _ :: _ :: _ :: _ :: _ :: _ :: _ :: _ :: _ :: _ :: _ :: _ :: [])) (k_X7_cutTo t (by omega) (by omega) 0 (by omega)) ok_X7_cutTo lm_X9_85 dX9_read_59 rfl [1, 2] rfl (by decide) rfl rfl rfl rfl rfl (by decide) (Nat.le_of_ble_eq_true rfl) rfl (by decide) (by decide) rfl rfl rfl ?_
    refine wa_aload_n (pc' := 63) dX9_read_62 rfl rfl rfl ?_
    refine wa_getfield (pc' := 66) (j := 2) zc_X9 lk_X9_22 dX9_read_63 rfl (by decide) rfl rfl ?_
    refine wa_rV (pc' := 69) (k_X8_chordCount _ _ _ _ _ _ _) ok_X8_chordCount lm_X9_107 dX9_read_66 rfl [5, 6, 7, 8] rfl (by decide) rfl rfl rfl rfl rfl (by decide) (Nat.le_of_ble_eq_true rfl) rfl (by decide) (by decide) rfl ?_
    refine wa_iret dX9_read_69 rfl (by decide) (by decide) ?_
    exact zX_e (c := (rC t 0, nm, tkS (beF (rdS (gT t) t.1 (t.1.toNat + 1) 0 (shClr D) k).2.1.2.2.1 (rdS (gT t) t.1 (t.1.toNat + 1) 0 (shClr D) k).2.1.2.2.2.2.1) (rdS (gT t) t.1 (t.1.toNat + 1) 0 (shClr D) k).2.1, (rdS (gT t) t.1 (t.1.toNat + 1) 0 (shClr D) k).2.1, hup H ((ol + ct) % 8).toNat s, (if ct < 8 then ol else (ol + 1) % 8), (if ct < 8 then ct + 1 else ct), (rdS (gT t) t.1 (t.1.toNat + 1) 0 (shClr D) k).2.2, y, si, fl, wi)) (by rw [cs_read] <;> ((repeat (first | rw [if_pos (by omega)] | rw [if_neg (by omega)])) <;> rfl)) rfl
  · refine wa_iconst (pc' := 18) dX9_read_17 rfl ?_
    refine wa_iload_n (pc' := 19) dX9_read_18 rfl rfl rfl ?_
    refine wa_isub (pc' := 20) dX9_read_19 rfl ?_
    refine wa_iret dX9_read_20 rfl (by decide) (by decide) ?_
    exact zX_e (c := (t, nm, s, (rdS (gT t) t.1 (t.1.toNat + 1) 0 (shClr D) k).2.1, H, ol, ct, (rdS (gT t) t.1 (t.1.toNat + 1) 0 (shClr D) k).2.2, y, si, fl, wi)) (by rw [cs_read] <;> ((repeat (first | rw [if_pos (by omega)] | rw [if_neg (by omega)])) <;> rfl)) rfl

def cs_rowLength (l : Int) (p : Int) (kd : Int) : zCS → zP × zCS
  | (t, nm, s, D, H, ol, ct, k, y, si, fl, wi) => if (fndP s p 201 0 (if (0 ≤ l ∧ l < s.2.2.2.1) ∧ (kd = 0 ∨ kd = 1) ∧ (0 ≤ p ∧ p ≤ 200) then 1 else 0) (staL s y l wi)).1 = 0 then (.inr eIO, (t, nm, s, D, H, ol, ct, k, (fndP s p 201 0 (if (0 ≤ l ∧ l < s.2.2.2.1) ∧ (kd = 0 ∨ kd = 1) ∧ (0 ≤ p ∧ p ≤ 200) then 1 else 0) (staL s y l wi)).2, si, fl, wi)) else if kd = 0 then (.inl (some (zI ((fndP s p 201 0 (if (0 ≤ l ∧ l < s.2.2.2.1) ∧ (kd = 0 ∨ kd = 1) ∧ (0 ≤ p ∧ p ≤ 200) then 1 else 0) (staL s y l wi)).2.1.1))), (t, nm, s, D, H, ol, ct, k, (fndP s p 201 0 (if (0 ≤ l ∧ l < s.2.2.2.1) ∧ (kd = 0 ∨ kd = 1) ∧ (0 ≤ p ∧ p ≤ 200) then 1 else 0) (staL s y l wi)).2, si, fl, wi)) else (.inl (some (zI ((fndP s p 201 0 (if (0 ≤ l ∧ l < s.2.2.2.1) ∧ (kd = 0 ∨ kd = 1) ∧ (0 ≤ p ∧ p ≤ 200) then 1 else 0) (staL s y l wi)).2.2.1.1))), (t, nm, s, D, H, ol, ct, k, (fndP s p 201 0 (if (0 ≤ l ∧ l < s.2.2.2.1) ∧ (kd = 0 ∨ kd = 1) ∧ (0 ≤ p ∧ p ≤ 200) then 1 else 0) (staL s y l wi)).2, si, fl, wi))
set_option maxRecDepth 10000 in
set_option maxHeartbeats 1000000 in
theorem k_X9_rowLength (t nm : zRw) (s D : zSh) (H : Nat → zSh) (ol ct : Int) (k : zKd) (y : zLy) (si fl wi : Int) (h : okC (t, nm, s, D, H, ol, ct, k, y, si, fl, wi)) (l : Int) (hl : zin l) (p : Int) (hp : zin p) (kd : Int) (hkd : zin kd) : zMet q_X9_rowLength 9 1 6 [zR 0, zI l, zI p, zI kd] (wC t nm s D H ol ct k y si fl wi) (zX (cs_rowLength l p kd (t, nm, s, D, H, ol, ct, k, y, si, fl, wi)).1 (wCS (cs_rowLength l p kd (t, nm, s, D, H, ol, ct, k, y, si, fl, wi)).2)) := by
  obtain ⟨hT9, hnm, hs9, hD9, hH9, hol, hct, hk9, hq9, hsi, hfl, hwi⟩ := id h
  obtain ⟨hT8, hT7, hT6⟩ := id hT9
  obtain ⟨z1, z2, zT1, z4, zF1, zL1⟩ := id hs9.1
  have zNm := hs9.2.1
  have zg := hs9.2.2.1
  have zm := hs9.2.2.2.1
  have hln := hs9.2.2.2.2
  have zQ1 := fun i h1 h2 => (zNm i h1 h2).2.1
  have zS : okS s := ⟨zm, zL1⟩
  have hM := k_X3_find s y l p kd wi (by omega) (by omega) (by omega) (by omega) (by omega) hq9 (by omega) (by omega) zNm zT1 zF1 zL1
  refine z_introF (ls := [(0, _), (1, _), (2, _), (3, _)]) (by decide +kernel) rfl (fun _ _ => rfl) (fun _ _ => Nat.le_of_ble_eq_true rfl) ?_
  have hP0 : okQ (fndP s p 201 0 (if (0 ≤ l ∧ l < s.2.2.2.1) ∧ (kd = 0 ∨ kd = 1) ∧ (0 ≤ p ∧ p ≤ 200) then 1 else 0) (staL s y l wi)).2 := fndQ0 hq9 (by omega) (by omega) (by omega) (by omega) zNm zT1
  obtain ⟨p1, p2, p3, p4⟩ := id hP0
  by_cases g1 : (fndP s p 201 0 (if (0 ≤ l ∧ l < s.2.2.2.1) ∧ (kd = 0 ∨ kd = 1) ∧ (0 ≤ p ∧ p ≤ 200) then 1 else 0) (staL s y l wi)).1 = 0
  · rw [if_pos g1] at hM
    refine wa_aload_n (pc' := 1) dX9_rowLength_0 rfl rfl rfl ?_
    refine wa_getfield (pc' := 4) (j := 6) zc_X9 lk_X9_50 dX9_rowLength_1 rfl (by decide) rfl rfl ?_
    refine wa_iload_n (pc' := 5) dX9_rowLength_4 rfl rfl rfl ?_
    refine wa_iload_n (pc' := 6) dX9_rowLength_5 rfl rfl rfl ?_
    refine wa_iload_n (pc' := 7) dX9_rowLength_6 rfl rfl rfl ?_
    refine wa_aload_n (pc' := 8) dX9_rowLength_7 rfl rfl rfl ?_
    refine wa_getfield (pc' := 11) (j := 9) zc_X9 lk_X9_61 dX9_rowLength_8 rfl (by decide) rfl rfl ?_
    refine wa_dV (pc' := 14) (w' := (_ :: _ :: _ :: _ :: _ :: zO _ [_, _, _, _, _, _, _] :: zA _ _ _ :: zA _ _ _ :: zA _ _ _ :: _ :: _ :: _ :: _ :: _ :: _ :: _ :: _ :: _ :: _ :: _ :: _ :: _ :: _ :: _ :: _ :: _ :: _ :: _ :: _ :: _ :: _ :: _ :: _ :: _ :: _ :: _ :: _ :: _ :: _ :: _ :: _ :: _ :: _ :: _ :: _ :: _ :: _ :: _ :: zO _ [_, _, _, _, _, _, _, _, _, _, _] :: zO _ [_, _] :: zA _ _ _ :: zO _ [_, _] :: zA _ _ _ :: [])) hM ok_X3_find lm_X9_245 dX9_rowLength_11 rfl [48, 5, 6, 7, 8, 49, 50, 51, 52] rfl (by decide) rfl rfl rfl rfl rfl (by decide) (Nat.le_of_ble_eq_true rfl) rfl (by decide) (by decide) rfl rfl rfl ?_
    show Wa _ _ _ _ _ _ _ _ [zN] _ _ _
    refine wa_astore (pc' := 16) (ls' := [(4, _), (0, _), (1, _), (2, _), (3, _)]) dX9_rowLength_14 rfl (by decide) rfl ?_
    refine wa_aload (pc' := 18) dX9_rowLength_16 rfl rfl ?_
    refine wa_ifnonnull (tgt := 31) (pc' := 21) dX9_rowLength_18 (by decide) rfl (fun c18 => ?_) (fun c18 => ?_)
    · exact absurd rfl c18
    · exact wa_throwS (text := "there is no such line, pair or row") zx_X9_122_126 (by decide) dX9_rowLength_21 dX9_rowLength_24 dX9_rowLength_25 dX9_rowLength_27 dX9_rowLength_30 rfl (by decide) (by decide) (by decide) (by decide) (by exact zX_e (c := (t, nm, s, D, H, ol, ct, k, (fndP s p 201 0 (if (0 ≤ l ∧ l < s.2.2.2.1) ∧ (kd = 0 ∨ kd = 1) ∧ (0 ≤ p ∧ p ≤ 200) then 1 else 0) (staL s y l wi)).2, si, fl, wi)) (by rw [cs_rowLength] <;> ((repeat (first | rw [if_pos (by omega)] | rw [if_neg (by omega)])) <;> rfl)) rfl)
  · rw [if_neg g1] at hM
    by_cases g2 : kd = 0
    · rw [if_pos g2] at hM
      refine wa_aload_n (pc' := 1) dX9_rowLength_0 rfl rfl rfl ?_
      refine wa_getfield (pc' := 4) (j := 6) zc_X9 lk_X9_50 dX9_rowLength_1 rfl (by decide) rfl rfl ?_
      refine wa_iload_n (pc' := 5) dX9_rowLength_4 rfl rfl rfl ?_
      refine wa_iload_n (pc' := 6) dX9_rowLength_5 rfl rfl rfl ?_
      refine wa_iload_n (pc' := 7) dX9_rowLength_6 rfl rfl rfl ?_
      refine wa_aload_n (pc' := 8) dX9_rowLength_7 rfl rfl rfl ?_
      refine wa_getfield (pc' := 11) (j := 9) zc_X9 lk_X9_61 dX9_rowLength_8 rfl (by decide) rfl rfl ?_
      refine wa_dV (pc' := 14) (w' := (_ :: _ :: _ :: _ :: _ :: zO _ [_, _, _, _, _, _, _] :: zA _ _ _ :: zA _ _ _ :: zA _ _ _ :: _ :: _ :: _ :: _ :: _ :: _ :: _ :: _ :: _ :: _ :: _ :: _ :: _ :: _ :: _ :: _ :: _ :: _ :: _ :: _ :: _ :: _ :: _ :: _ :: _ :: _ :: _ :: _ :: _ :: _ :: _ :: _ :: _ :: _ :: _ :: _ :: _ :: _ :: _ :: zO _ [_, _, _, _, _, _, _, _, _, _, _] :: zO _ [_, _] :: zA _ _ _ :: zO _ [_, _] :: zA _ _ _ :: [])) hM ok_X3_find lm_X9_245 dX9_rowLength_11 rfl [48, 5, 6, 7, 8, 49, 50, 51, 52] rfl (by decide) rfl rfl rfl rfl rfl (by decide) (Nat.le_of_ble_eq_true rfl) rfl (by decide) (by decide) rfl rfl rfl ?_
      show Wa _ _ _ _ _ _ _ _ [zR 49] _ _ _
      refine wa_astore (pc' := 16) (ls' := [(4, _), (0, _), (1, _), (2, _), (3, _)]) dX9_rowLength_14 rfl (by decide) rfl ?_
      refine wa_aload (pc' := 18) dX9_rowLength_16 rfl rfl ?_
      refine wa_ifnonnull (tgt := 31) (pc' := 21) dX9_rowLength_18 (by decide) rfl (fun c18 => ?_) (fun c18 => ?_)
      · refine wa_aload (pc' := 33) dX9_rowLength_31 rfl rfl ?_
        refine wa_rV (pc' := 36) (k_X7_size (fndP s p 201 0 (if (0 ≤ l ∧ l < s.2.2.2.1) ∧ (kd = 0 ∨ kd = 1) ∧ (0 ≤ p ∧ p ≤ 200) then 1 else 0) (staL s y l wi)).2.1) ok_X7_size lm_X9_72 dX9_rowLength_33 rfl [49, 50] rfl (by decide) rfl rfl rfl rfl rfl (by decide) (Nat.le_of_ble_eq_true rfl) rfl (by decide) (by decide) rfl ?_
        refine wa_iret dX9_rowLength_36 rfl (by decide) (by decide) ?_
        exact zX_e (c := (t, nm, s, D, H, ol, ct, k, (fndP s p 201 0 (if (0 ≤ l ∧ l < s.2.2.2.1) ∧ (kd = 0 ∨ kd = 1) ∧ (0 ≤ p ∧ p ≤ 200) then 1 else 0) (staL s y l wi)).2, si, fl, wi)) (by rw [cs_rowLength] <;> ((repeat (first | rw [if_pos (by omega)] | rw [if_neg (by omega)])) <;> rfl)) rfl
      · exact nomatch c18
    · rw [if_neg g2] at hM
      refine wa_aload_n (pc' := 1) dX9_rowLength_0 rfl rfl rfl ?_
      refine wa_getfield (pc' := 4) (j := 6) zc_X9 lk_X9_50 dX9_rowLength_1 rfl (by decide) rfl rfl ?_
      refine wa_iload_n (pc' := 5) dX9_rowLength_4 rfl rfl rfl ?_
      refine wa_iload_n (pc' := 6) dX9_rowLength_5 rfl rfl rfl ?_
      refine wa_iload_n (pc' := 7) dX9_rowLength_6 rfl rfl rfl ?_
      refine wa_aload_n (pc' := 8) dX9_rowLength_7 rfl rfl rfl ?_
      refine wa_getfield (pc' := 11) (j := 9) zc_X9 lk_X9_61 dX9_rowLength_8 rfl (by decide) rfl rfl ?_
      refine wa_dV (pc' := 14) (w' := (_ :: _ :: _ :: _ :: _ :: zO _ [_, _, _, _, _, _, _] :: zA _ _ _ :: zA _ _ _ :: zA _ _ _ :: _ :: _ :: _ :: _ :: _ :: _ :: _ :: _ :: _ :: _ :: _ :: _ :: _ :: _ :: _ :: _ :: _ :: _ :: _ :: _ :: _ :: _ :: _ :: _ :: _ :: _ :: _ :: _ :: _ :: _ :: _ :: _ :: _ :: _ :: _ :: _ :: _ :: _ :: _ :: zO _ [_, _, _, _, _, _, _, _, _, _, _] :: zO _ [_, _] :: zA _ _ _ :: zO _ [_, _] :: zA _ _ _ :: [])) hM ok_X3_find lm_X9_245 dX9_rowLength_11 rfl [48, 5, 6, 7, 8, 49, 50, 51, 52] rfl (by decide) rfl rfl rfl rfl rfl (by decide) (Nat.le_of_ble_eq_true rfl) rfl (by decide) (by decide) rfl rfl rfl ?_
      show Wa _ _ _ _ _ _ _ _ [zR 51] _ _ _
      refine wa_astore (pc' := 16) (ls' := [(4, _), (0, _), (1, _), (2, _), (3, _)]) dX9_rowLength_14 rfl (by decide) rfl ?_
      refine wa_aload (pc' := 18) dX9_rowLength_16 rfl rfl ?_
      refine wa_ifnonnull (tgt := 31) (pc' := 21) dX9_rowLength_18 (by decide) rfl (fun c18 => ?_) (fun c18 => ?_)
      · refine wa_aload (pc' := 33) dX9_rowLength_31 rfl rfl ?_
        refine wa_rV (pc' := 36) (k_X7_size (fndP s p 201 0 (if (0 ≤ l ∧ l < s.2.2.2.1) ∧ (kd = 0 ∨ kd = 1) ∧ (0 ≤ p ∧ p ≤ 200) then 1 else 0) (staL s y l wi)).2.2.1) ok_X7_size lm_X9_72 dX9_rowLength_33 rfl [51, 52] rfl (by decide) rfl rfl rfl rfl rfl (by decide) (Nat.le_of_ble_eq_true rfl) rfl (by decide) (by decide) rfl ?_
        refine wa_iret dX9_rowLength_36 rfl (by decide) (by decide) ?_
        exact zX_e (c := (t, nm, s, D, H, ol, ct, k, (fndP s p 201 0 (if (0 ≤ l ∧ l < s.2.2.2.1) ∧ (kd = 0 ∨ kd = 1) ∧ (0 ≤ p ∧ p ≤ 200) then 1 else 0) (staL s y l wi)).2, si, fl, wi)) (by rw [cs_rowLength] <;> ((repeat (first | rw [if_pos (by omega)] | rw [if_neg (by omega)])) <;> rfl)) rfl
      · exact nomatch c18

def cs_rowChar (l : Int) (p : Int) (kd : Int) (c : Int) : zCS → zP × zCS
  | (t, nm, s, D, H, ol, ct, k, y, si, fl, wi) => if (fndP s p 201 0 (if (0 ≤ l ∧ l < s.2.2.2.1) ∧ (kd = 0 ∨ kd = 1) ∧ (0 ≤ p ∧ p ≤ 200) then 1 else 0) (staL s y l wi)).1 = 0 then (.inr eIO, (t, nm, s, D, H, ol, ct, k, (fndP s p 201 0 (if (0 ≤ l ∧ l < s.2.2.2.1) ∧ (kd = 0 ∨ kd = 1) ∧ (0 ≤ p ∧ p ≤ 200) then 1 else 0) (staL s y l wi)).2, si, fl, wi)) else if c < 0 then (.inr eIO, (t, nm, s, D, H, ol, ct, k, (fndP s p 201 0 (if (0 ≤ l ∧ l < s.2.2.2.1) ∧ (kd = 0 ∨ kd = 1) ∧ (0 ≤ p ∧ p ≤ 200) then 1 else 0) (staL s y l wi)).2, si, fl, wi)) else if kd = 0 then (.inl (some (zI (if 0 ≤ c ∧ c < (fndP s p 201 0 (if (0 ≤ l ∧ l < s.2.2.2.1) ∧ (kd = 0 ∨ kd = 1) ∧ (0 ≤ p ∧ p ≤ 200) then 1 else 0) (staL s y l wi)).2.1.1 then (fndP s p 201 0 (if (0 ≤ l ∧ l < s.2.2.2.1) ∧ (kd = 0 ∨ kd = 1) ∧ (0 ≤ p ∧ p ≤ 200) then 1 else 0) (staL s y l wi)).2.1.2 c else -1))), (t, nm, s, D, H, ol, ct, k, (fndP s p 201 0 (if (0 ≤ l ∧ l < s.2.2.2.1) ∧ (kd = 0 ∨ kd = 1) ∧ (0 ≤ p ∧ p ≤ 200) then 1 else 0) (staL s y l wi)).2, si, fl, wi)) else (.inl (some (zI (if 0 ≤ c ∧ c < (fndP s p 201 0 (if (0 ≤ l ∧ l < s.2.2.2.1) ∧ (kd = 0 ∨ kd = 1) ∧ (0 ≤ p ∧ p ≤ 200) then 1 else 0) (staL s y l wi)).2.2.1.1 then (fndP s p 201 0 (if (0 ≤ l ∧ l < s.2.2.2.1) ∧ (kd = 0 ∨ kd = 1) ∧ (0 ≤ p ∧ p ≤ 200) then 1 else 0) (staL s y l wi)).2.2.1.2 c else -1))), (t, nm, s, D, H, ol, ct, k, (fndP s p 201 0 (if (0 ≤ l ∧ l < s.2.2.2.1) ∧ (kd = 0 ∨ kd = 1) ∧ (0 ≤ p ∧ p ≤ 200) then 1 else 0) (staL s y l wi)).2, si, fl, wi))
set_option maxRecDepth 10000 in
set_option maxHeartbeats 1000000 in
theorem k_X9_rowChar (t nm : zRw) (s D : zSh) (H : Nat → zSh) (ol ct : Int) (k : zKd) (y : zLy) (si fl wi : Int) (h : okC (t, nm, s, D, H, ol, ct, k, y, si, fl, wi)) (l : Int) (hl : zin l) (p : Int) (hp : zin p) (kd : Int) (hkd : zin kd) (c : Int) (hc : zin c) : zMet q_X9_rowChar 9 2 12 [zR 0, zI l, zI p, zI kd, zI c] (wC t nm s D H ol ct k y si fl wi) (zX (cs_rowChar l p kd c (t, nm, s, D, H, ol, ct, k, y, si, fl, wi)).1 (wCS (cs_rowChar l p kd c (t, nm, s, D, H, ol, ct, k, y, si, fl, wi)).2)) := by
  obtain ⟨hT9, hnm, hs9, hD9, hH9, hol, hct, hk9, hq9, hsi, hfl, hwi⟩ := id h
  obtain ⟨hT8, hT7, hT6⟩ := id hT9
  obtain ⟨z1, z2, zT1, z4, zF1, zL1⟩ := id hs9.1
  have zNm := hs9.2.1
  have zg := hs9.2.2.1
  have zm := hs9.2.2.2.1
  have hln := hs9.2.2.2.2
  have zQ1 := fun i h1 h2 => (zNm i h1 h2).2.1
  have zS : okS s := ⟨zm, zL1⟩
  have hM := k_X3_find s y l p kd wi (by omega) (by omega) (by omega) (by omega) (by omega) hq9 (by omega) (by omega) zNm zT1 zF1 zL1
  refine z_introF (ls := [(0, _), (1, _), (2, _), (3, _), (4, _)]) (by decide +kernel) rfl (fun _ _ => rfl) (fun _ _ => Nat.le_of_ble_eq_true rfl) ?_
  have hP0 : okQ (fndP s p 201 0 (if (0 ≤ l ∧ l < s.2.2.2.1) ∧ (kd = 0 ∨ kd = 1) ∧ (0 ≤ p ∧ p ≤ 200) then 1 else 0) (staL s y l wi)).2 := fndQ0 hq9 (by omega) (by omega) (by omega) (by omega) zNm zT1
  obtain ⟨p1, p2, p3, p4⟩ := id hP0
  by_cases g1 : (fndP s p 201 0 (if (0 ≤ l ∧ l < s.2.2.2.1) ∧ (kd = 0 ∨ kd = 1) ∧ (0 ≤ p ∧ p ≤ 200) then 1 else 0) (staL s y l wi)).1 = 0
  · rw [if_pos g1] at hM
    refine wa_aload_n (pc' := 1) dX9_rowChar_0 rfl rfl rfl ?_
    refine wa_getfield (pc' := 4) (j := 6) zc_X9 lk_X9_50 dX9_rowChar_1 rfl (by decide) rfl rfl ?_
    refine wa_iload_n (pc' := 5) dX9_rowChar_4 rfl rfl rfl ?_
    refine wa_iload_n (pc' := 6) dX9_rowChar_5 rfl rfl rfl ?_
    refine wa_iload_n (pc' := 7) dX9_rowChar_6 rfl rfl rfl ?_
    refine wa_aload_n (pc' := 8) dX9_rowChar_7 rfl rfl rfl ?_
    refine wa_getfield (pc' := 11) (j := 9) zc_X9 lk_X9_61 dX9_rowChar_8 rfl (by decide) rfl rfl ?_
    refine wa_dV (pc' := 14) (w' := (_ :: _ :: _ :: _ :: _ :: zO _ [_, _, _, _, _, _, _] :: zA _ _ _ :: zA _ _ _ :: zA _ _ _ :: _ :: _ :: _ :: _ :: _ :: _ :: _ :: _ :: _ :: _ :: _ :: _ :: _ :: _ :: _ :: _ :: _ :: _ :: _ :: _ :: _ :: _ :: _ :: _ :: _ :: _ :: _ :: _ :: _ :: _ :: _ :: _ :: _ :: _ :: _ :: _ :: _ :: _ :: _ :: zO _ [_, _, _, _, _, _, _, _, _, _, _] :: zO _ [_, _] :: zA _ _ _ :: zO _ [_, _] :: zA _ _ _ :: [])) hM ok_X3_find lm_X9_245 dX9_rowChar_11 rfl [48, 5, 6, 7, 8, 49, 50, 51, 52] rfl (by decide) rfl rfl rfl rfl rfl (by decide) (Nat.le_of_ble_eq_true rfl) rfl (by decide) (by decide) rfl rfl rfl ?_
    show Wa _ _ _ _ _ _ _ _ [zN] _ _ _
    refine wa_astore (pc' := 16) (ls' := [(5, _), (0, _), (1, _), (2, _), (3, _), (4, _)]) dX9_rowChar_14 rfl (by decide) rfl ?_
    refine wa_aload (pc' := 18) dX9_rowChar_16 rfl rfl ?_
    refine wa_ifnonnull (tgt := 31) (pc' := 21) dX9_rowChar_18 (by decide) rfl (fun c18 => ?_) (fun c18 => ?_)
    · exact absurd rfl c18
    · exact wa_throwS (text := "there is no such line, pair or row") zx_X9_122_126 (by decide) dX9_rowChar_21 dX9_rowChar_24 dX9_rowChar_25 dX9_rowChar_27 dX9_rowChar_30 rfl (by decide) (by decide) (by decide) (by decide) (by exact zX_e (c := (t, nm, s, D, H, ol, ct, k, (fndP s p 201 0 (if (0 ≤ l ∧ l < s.2.2.2.1) ∧ (kd = 0 ∨ kd = 1) ∧ (0 ≤ p ∧ p ≤ 200) then 1 else 0) (staL s y l wi)).2, si, fl, wi)) (by rw [cs_rowChar] <;> ((repeat (first | rw [if_pos (by omega)] | rw [if_neg (by omega)])) <;> rfl)) rfl)
  · rw [if_neg g1] at hM
    by_cases g2 : kd = 0
    · rw [if_pos g2] at hM
      refine wa_aload_n (pc' := 1) dX9_rowChar_0 rfl rfl rfl ?_
      refine wa_getfield (pc' := 4) (j := 6) zc_X9 lk_X9_50 dX9_rowChar_1 rfl (by decide) rfl rfl ?_
      refine wa_iload_n (pc' := 5) dX9_rowChar_4 rfl rfl rfl ?_
      refine wa_iload_n (pc' := 6) dX9_rowChar_5 rfl rfl rfl ?_
      refine wa_iload_n (pc' := 7) dX9_rowChar_6 rfl rfl rfl ?_
      refine wa_aload_n (pc' := 8) dX9_rowChar_7 rfl rfl rfl ?_
      refine wa_getfield (pc' := 11) (j := 9) zc_X9 lk_X9_61 dX9_rowChar_8 rfl (by decide) rfl rfl ?_
      refine wa_dV (pc' := 14) (w' := (_ :: _ :: _ :: _ :: _ :: zO _ [_, _, _, _, _, _, _] :: zA _ _ _ :: zA _ _ _ :: zA _ _ _ :: _ :: _ :: _ :: _ :: _ :: _ :: _ :: _ :: _ :: _ :: _ :: _ :: _ :: _ :: _ :: _ :: _ :: _ :: _ :: _ :: _ :: _ :: _ :: _ :: _ :: _ :: _ :: _ :: _ :: _ :: _ :: _ :: _ :: _ :: _ :: _ :: _ :: _ :: _ :: zO _ [_, _, _, _, _, _, _, _, _, _, _] :: zO _ [_, _] :: zA _ _ _ :: zO _ [_, _] :: zA _ _ _ :: [])) hM ok_X3_find lm_X9_245 dX9_rowChar_11 rfl [48, 5, 6, 7, 8, 49, 50, 51, 52] rfl (by decide) rfl rfl rfl rfl rfl (by decide) (Nat.le_of_ble_eq_true rfl) rfl (by decide) (by decide) rfl rfl rfl ?_
      show Wa _ _ _ _ _ _ _ _ [zR 49] _ _ _
      refine wa_astore (pc' := 16) (ls' := [(5, _), (0, _), (1, _), (2, _), (3, _), (4, _)]) dX9_rowChar_14 rfl (by decide) rfl ?_
      refine wa_aload (pc' := 18) dX9_rowChar_16 rfl rfl ?_
      refine wa_ifnonnull (tgt := 31) (pc' := 21) dX9_rowChar_18 (by decide) rfl (fun c18 => ?_) (fun c18 => ?_)
      · refine wa_aload_n (pc' := 32) dX9_rowChar_31 rfl rfl rfl ?_
        refine wa_iload (pc' := 34) dX9_rowChar_32 rfl rfl ?_
        refine wa_tR (pc' := 37) (k_X9_requireIndex t nm s D H ol ct k (fndP s p 201 0 (if (0 ≤ l ∧ l < s.2.2.2.1) ∧ (kd = 0 ∨ kd = 1) ∧ (0 ≤ p ∧ p ≤ 200) then 1 else 0) (staL s y l wi)).2 si fl wi ⟨hT9, hnm, hs9, hD9, hH9, hol, hct, hk9, hP0, hsi, hfl, hwi⟩ c (by omega)) ok_X9_requireIndex lm_X9_137 dX9_rowChar_34 rfl (wC_ok _ _ _ _ _ _ _ _ _ _ _ _) rfl rfl rfl rfl rfl (by decide) (Nat.le_of_ble_eq_true rfl) rfl (by decide) (by decide) rfl (fun h34 => by exact zX_e (c := (t, nm, s, D, H, ol, ct, k, (fndP s p 201 0 (if (0 ≤ l ∧ l < s.2.2.2.1) ∧ (kd = 0 ∨ kd = 1) ∧ (0 ≤ p ∧ p ≤ 200) then 1 else 0) (staL s y l wi)).2, si, fl, wi)) (by rw [cs_rowChar] <;> ((repeat (first | rw [if_pos (by omega)] | rw [if_neg (by omega)])) <;> rfl)) rfl) (fun h34 => ?_)
        show Wa _ _ _ _ _ _ _ _ [] _ _ _
        refine wa_aload (pc' := 39) dX9_rowChar_37 rfl rfl ?_
        refine wa_iload (pc' := 41) dX9_rowChar_39 rfl rfl ?_
        refine wa_rV (pc' := 44) (k_X7_at (fndP s p 201 0 (if (0 ≤ l ∧ l < s.2.2.2.1) ∧ (kd = 0 ∨ kd = 1) ∧ (0 ≤ p ∧ p ≤ 200) then 1 else 0) (staL s y l wi)).2.1 (by omega) (by omega) c (by omega)) ok_X7_at lm_X9_144 dX9_rowChar_41 rfl [49, 50] rfl (by decide) rfl rfl rfl rfl rfl (by decide) (Nat.le_of_ble_eq_true rfl) rfl (by decide) (by decide) rfl ?_
        refine wa_iret dX9_rowChar_44 rfl (by decide) (by decide) ?_
        exact zX_e (c := (t, nm, s, D, H, ol, ct, k, (fndP s p 201 0 (if (0 ≤ l ∧ l < s.2.2.2.1) ∧ (kd = 0 ∨ kd = 1) ∧ (0 ≤ p ∧ p ≤ 200) then 1 else 0) (staL s y l wi)).2, si, fl, wi)) (by rw [cs_rowChar] <;> ((repeat (first | rw [if_pos (by omega)] | rw [if_neg (by omega)])) <;> rfl)) rfl
      · exact nomatch c18
    · rw [if_neg g2] at hM
      refine wa_aload_n (pc' := 1) dX9_rowChar_0 rfl rfl rfl ?_
      refine wa_getfield (pc' := 4) (j := 6) zc_X9 lk_X9_50 dX9_rowChar_1 rfl (by decide) rfl rfl ?_
      refine wa_iload_n (pc' := 5) dX9_rowChar_4 rfl rfl rfl ?_
      refine wa_iload_n (pc' := 6) dX9_rowChar_5 rfl rfl rfl ?_
      refine wa_iload_n (pc' := 7) dX9_rowChar_6 rfl rfl rfl ?_
      refine wa_aload_n (pc' := 8) dX9_rowChar_7 rfl rfl rfl ?_
      refine wa_getfield (pc' := 11) (j := 9) zc_X9 lk_X9_61 dX9_rowChar_8 rfl (by decide) rfl rfl ?_
      refine wa_dV (pc' := 14) (w' := (_ :: _ :: _ :: _ :: _ :: zO _ [_, _, _, _, _, _, _] :: zA _ _ _ :: zA _ _ _ :: zA _ _ _ :: _ :: _ :: _ :: _ :: _ :: _ :: _ :: _ :: _ :: _ :: _ :: _ :: _ :: _ :: _ :: _ :: _ :: _ :: _ :: _ :: _ :: _ :: _ :: _ :: _ :: _ :: _ :: _ :: _ :: _ :: _ :: _ :: _ :: _ :: _ :: _ :: _ :: _ :: _ :: zO _ [_, _, _, _, _, _, _, _, _, _, _] :: zO _ [_, _] :: zA _ _ _ :: zO _ [_, _] :: zA _ _ _ :: [])) hM ok_X3_find lm_X9_245 dX9_rowChar_11 rfl [48, 5, 6, 7, 8, 49, 50, 51, 52] rfl (by decide) rfl rfl rfl rfl rfl (by decide) (Nat.le_of_ble_eq_true rfl) rfl (by decide) (by decide) rfl rfl rfl ?_
      show Wa _ _ _ _ _ _ _ _ [zR 51] _ _ _
      refine wa_astore (pc' := 16) (ls' := [(5, _), (0, _), (1, _), (2, _), (3, _), (4, _)]) dX9_rowChar_14 rfl (by decide) rfl ?_
      refine wa_aload (pc' := 18) dX9_rowChar_16 rfl rfl ?_
      refine wa_ifnonnull (tgt := 31) (pc' := 21) dX9_rowChar_18 (by decide) rfl (fun c18 => ?_) (fun c18 => ?_)
      · refine wa_aload_n (pc' := 32) dX9_rowChar_31 rfl rfl rfl ?_
        refine wa_iload (pc' := 34) dX9_rowChar_32 rfl rfl ?_
        refine wa_tR (pc' := 37) (k_X9_requireIndex t nm s D H ol ct k (fndP s p 201 0 (if (0 ≤ l ∧ l < s.2.2.2.1) ∧ (kd = 0 ∨ kd = 1) ∧ (0 ≤ p ∧ p ≤ 200) then 1 else 0) (staL s y l wi)).2 si fl wi ⟨hT9, hnm, hs9, hD9, hH9, hol, hct, hk9, hP0, hsi, hfl, hwi⟩ c (by omega)) ok_X9_requireIndex lm_X9_137 dX9_rowChar_34 rfl (wC_ok _ _ _ _ _ _ _ _ _ _ _ _) rfl rfl rfl rfl rfl (by decide) (Nat.le_of_ble_eq_true rfl) rfl (by decide) (by decide) rfl (fun h34 => by exact zX_e (c := (t, nm, s, D, H, ol, ct, k, (fndP s p 201 0 (if (0 ≤ l ∧ l < s.2.2.2.1) ∧ (kd = 0 ∨ kd = 1) ∧ (0 ≤ p ∧ p ≤ 200) then 1 else 0) (staL s y l wi)).2, si, fl, wi)) (by rw [cs_rowChar] <;> ((repeat (first | rw [if_pos (by omega)] | rw [if_neg (by omega)])) <;> rfl)) rfl) (fun h34 => ?_)
        show Wa _ _ _ _ _ _ _ _ [] _ _ _
        refine wa_aload (pc' := 39) dX9_rowChar_37 rfl rfl ?_
        refine wa_iload (pc' := 41) dX9_rowChar_39 rfl rfl ?_
        refine wa_rV (pc' := 44) (k_X7_at (fndP s p 201 0 (if (0 ≤ l ∧ l < s.2.2.2.1) ∧ (kd = 0 ∨ kd = 1) ∧ (0 ≤ p ∧ p ≤ 200) then 1 else 0) (staL s y l wi)).2.2.1 (by omega) (by omega) c (by omega)) ok_X7_at lm_X9_144 dX9_rowChar_41 rfl [51, 52] rfl (by decide) rfl rfl rfl rfl rfl (by decide) (Nat.le_of_ble_eq_true rfl) rfl (by decide) (by decide) rfl ?_
        refine wa_iret dX9_rowChar_44 rfl (by decide) (by decide) ?_
        exact zX_e (c := (t, nm, s, D, H, ol, ct, k, (fndP s p 201 0 (if (0 ≤ l ∧ l < s.2.2.2.1) ∧ (kd = 0 ∨ kd = 1) ∧ (0 ≤ p ∧ p ≤ 200) then 1 else 0) (staL s y l wi)).2, si, fl, wi)) (by rw [cs_rowChar] <;> ((repeat (first | rw [if_pos (by omega)] | rw [if_neg (by omega)])) <;> rfl)) rfl
      · exact nomatch c18

def cs_undo : zCS → zP × zCS
  | (t, nm, s, D, H, ol, ct, k, y, si, fl, wi) => if ct = 0 then (.inr eIS, (t, nm, s, D, H, ol, ct, k, y, si, fl, wi)) else (.inl (some (zI (ct - 1))), (t, nm, H ((ol + (ct - 1)) % 8).toNat, D, H, ol, ct - 1, k, y, si, fl, wi))
set_option maxRecDepth 10000 in
set_option maxHeartbeats 1000000 in
theorem k_X9_undo (t nm : zRw) (s D : zSh) (H : Nat → zSh) (ol ct : Int) (k : zKd) (y : zLy) (si fl wi : Int) (h : okC (t, nm, s, D, H, ol, ct, k, y, si, fl, wi))   : zMet q_X9_undo 7 1 6 [zR 0] (wC t nm s D H ol ct k y si fl wi) (zX (cs_undo (t, nm, s, D, H, ol, ct, k, y, si, fl, wi)).1 (wCS (cs_undo (t, nm, s, D, H, ol, ct, k, y, si, fl, wi)).2)) := by
  refine z_introF (ls := [(0, _)]) (by decide +kernel) rfl (fun _ _ => rfl) (fun _ _ => Nat.le_of_ble_eq_true rfl) ?_
  obtain ⟨hT9, hnm, hs9, hD9, hH9, hol, hct, hk9, hq9, hsi, hfl, hwi⟩ := id h
  obtain ⟨hT8, hT7, hT6⟩ := id hT9
  obtain ⟨z1, z2, zT1, z4, zF1, zL1⟩ := id hs9.1
  have zNm := hs9.2.1
  have zg := hs9.2.2.1
  have zm := hs9.2.2.2.1
  have hln := hs9.2.2.2.2
  have zQ1 := fun i h1 h2 => (zNm i h1 h2).2.1
  have zS : okS s := ⟨zm, zL1⟩
  refine wa_aload_n (pc' := 1) dX9_undo_0 rfl rfl rfl ?_
  refine wa_getfield (pc' := 4) (j := 4) zc_X9 lk_X9_32 dX9_undo_1 rfl (by decide) rfl rfl ?_
  refine wa_rV (pc' := 7) (k_X1_isEmpty H ol ct (by omega)) ok_X1_isEmpty lm_X9_251 dX9_undo_4 rfl [13, 14, 15, 16, 17, 18, 19, 20, 21, 22, 23, 24, 25, 26, 27, 28, 29, 30, 31, 32, 33, 34, 35, 36, 37, 38, 39, 40, 41, 42, 43, 44, 45, 46] rfl (by decide) rfl rfl rfl rfl rfl (by decide) (Nat.le_of_ble_eq_true rfl) rfl (by decide) (by decide) rfl ?_
  refine wa_if_eq (tgt := 20) (pc' := 10) dX9_undo_7 (by decide) rfl (by split <;> omega) (fun c7 => ?_) (fun c7 => ?_)
  · have h7 : ¬ ct = 0 := by intro h; rw [if_pos h] at c7; omega
    refine wa_aload_n (pc' := 21) dX9_undo_20 rfl rfl rfl ?_
    refine wa_getfield (pc' := 24) (j := 4) zc_X9 lk_X9_32 dX9_undo_21 rfl (by decide) rfl rfl ?_
    refine wa_aload_n (pc' := 25) dX9_undo_24 rfl rfl rfl ?_
    refine wa_getfield (pc' := 28) (j := 2) zc_X9 lk_X9_22 dX9_undo_25 rfl (by decide) rfl rfl ?_
    refine wa_restC (pc' := 31) (t := t) (nm := nm) (s := s) (D := D) (H := H) (ol := ol) (ct := ct) (k := k) (y := y) (si := si) (fl := fl) (wi := wi) (by omega) (by omega) (fun i hi => ⟨(hH9 i hi).2.2.2.1, (hH9 i hi).1.2.2.2.2.2⟩) lm_X9_257 dX9_undo_28 rfl (by decide) (Nat.le_of_ble_eq_true rfl) rfl (by decide) (by decide) ?_
    refine wa_iret dX9_undo_31 rfl (by decide) (by decide) ?_
    exact zX_e (c := (t, nm, H ((ol + (ct - 1)) % 8).toNat, D, H, ol, ct - 1, k, y, si, fl, wi)) (by rw [cs_undo] <;> ((repeat (first | rw [if_pos (by omega)] | rw [if_neg (by omega)])) <;> rfl)) rfl
  · have h7 : ct = 0 := by split at c7 <;> first | assumption | omega
    exact wa_throwS (text := "there is nothing to undo") zx_X9_76_80 (by decide) dX9_undo_10 dX9_undo_13 dX9_undo_14 dX9_undo_16 dX9_undo_19 rfl (by decide) (by decide) (by decide) (by decide) (by exact zX_e (c := (t, nm, s, D, H, ol, ct, k, y, si, fl, wi)) (by rw [cs_undo] <;> ((repeat (first | rw [if_pos (by omega)] | rw [if_neg (by omega)])) <;> rfl)) rfl)

def cs_fingerprint : zCS → zP × zCS
  | (t, nm, s, D, H, ol, ct, k, y, si, fl, wi) => (.inl (some (zJ (31 * (31 * (fpC (fun i f => s.2.2.1 (i * 5 + f)) s.2.2.2.2.1.toNat 0 (fpB (fun l => s.2.1 (l + 1) - s.2.1 l) (ltr s.1 s.2.1) s.2.2.2.1.toNat 0 (31 * 47 + s.2.2.2.1))) + tonO s.2.2.2.2.2.1 s.2.2.2.2.2.2) + (if s.2.2.2.2.2.2 = 0 then 0 else 1)))), (t, nm, s, D, H, ol, ct, k, y, si, fl, wi))
set_option maxRecDepth 10000 in
set_option maxHeartbeats 1000000 in
theorem k_X9_fingerprint (t nm : zRw) (s D : zSh) (H : Nat → zSh) (ol ct : Int) (k : zKd) (y : zLy) (si fl wi : Int) (h : okC (t, nm, s, D, H, ol, ct, k, y, si, fl, wi))   : zMet q_X9_fingerprint 3 0 0 [zR 0] (wC t nm s D H ol ct k y si fl wi) (zX (cs_fingerprint (t, nm, s, D, H, ol, ct, k, y, si, fl, wi)).1 (wCS (cs_fingerprint (t, nm, s, D, H, ol, ct, k, y, si, fl, wi)).2)) := by
  refine z_introF (ls := [(0, _)]) (by decide +kernel) rfl (fun _ _ => rfl) (fun _ _ => Nat.le_of_ble_eq_true rfl) ?_
  obtain ⟨hT9, hnm, hs9, hD9, hH9, hol, hct, hk9, hq9, hsi, hfl, hwi⟩ := id h
  obtain ⟨hT8, hT7, hT6⟩ := id hT9
  obtain ⟨z1, z2, zT1, z4, zF1, zL1⟩ := id hs9.1
  have zNm := hs9.2.1
  have zg := hs9.2.2.1
  have zm := hs9.2.2.2.1
  have hln := hs9.2.2.2.2
  have zQ1 := fun i h1 h2 => (zNm i h1 h2).2.1
  have zS : okS s := ⟨zm, zL1⟩
  refine wa_aload_n (pc' := 1) dX9_fingerprint_0 rfl rfl rfl ?_
  refine wa_getfield (pc' := 4) (j := 2) zc_X9 lk_X9_22 dX9_fingerprint_1 rfl (by decide) rfl rfl ?_
  refine wa_ldc2 (pc' := 7) (n := 47) dX9_fingerprint_4 rfl kl_X9_260 ?_
  refine wa_rV (pc' := 10) (k_X8_addTo s.1 s.2.1 s.2.2.1 s.2.2.2.1 s.2.2.2.2.1 s.2.2.2.2.2.1 s.2.2.2.2.2.2 47 zT1 (by omega) (by omega) zF1 zL1) ok_X8_addTo lm_X9_262 dX9_fingerprint_7 rfl [5, 6, 7, 8] rfl (by decide) rfl rfl rfl rfl rfl (by decide) (Nat.le_of_ble_eq_true rfl) rfl (by decide) (by decide) rfl ?_
  refine wa_lstore_n (pc' := 11) (ls' := [(1, _), (0, _)]) dX9_fingerprint_10 rfl rfl (by decide) rfl ?_
  refine wa_ldc2 (pc' := 14) (n := 31) dX9_fingerprint_11 rfl kl_X9_266 ?_
  refine wa_lload_n (pc' := 15) dX9_fingerprint_14 rfl rfl rfl ?_
  refine wa_lmul (pc' := 16) dX9_fingerprint_15 rfl ?_
  refine wa_aload_n (pc' := 17) dX9_fingerprint_16 rfl rfl rfl ?_
  refine wa_rI (pc' := 20) (k_X9_tonicD _ _ _ _ _ _ _ _ _ _ _ _ zm) ok_X9_tonic lm_X9_218 dX9_fingerprint_17 rfl (wC_ok _ _ _ _ _ _ _ _ _ _ _ _) rfl rfl rfl rfl rfl (by decide) (Nat.le_of_ble_eq_true rfl) rfl (by decide) (by decide) rfl ?_
  show Wa _ _ _ _ _ _ _ _ [_, _] _ _ _
  refine wa_i2l (pc' := 21) dX9_fingerprint_20 rfl (by unfold tonO; split <;> omega) ?_
  refine wa_ladd (pc' := 22) dX9_fingerprint_21 rfl ?_
  refine wa_lstore_n (pc' := 23) (ls' := [(1, _), (0, _)]) dX9_fingerprint_22 rfl rfl (by decide) rfl ?_
  refine wa_ldc2 (pc' := 26) (n := 31) dX9_fingerprint_23 rfl kl_X9_266 ?_
  refine wa_lload_n (pc' := 27) dX9_fingerprint_26 rfl rfl rfl ?_
  refine wa_lmul (pc' := 28) dX9_fingerprint_27 rfl ?_
  refine wa_aload_n (pc' := 29) dX9_fingerprint_28 rfl rfl rfl ?_
  refine wa_getfield (pc' := 32) (j := 2) zc_X9 lk_X9_22 dX9_fingerprint_29 rfl (by decide) rfl rfl ?_
  refine wa_getfieldN (pc' := 35) (j := 6) zc_X8 lk_X9_194 dX9_fingerprint_32 rfl (by decide) rfl rfl ?_
  refine wa_if_eq (tgt := 42) (pc' := 38) dX9_fingerprint_35 (by decide) rfl (by omega) (fun c35 => ?_) (fun c35 => ?_)
  · refine wa_iconst (pc' := 43) dX9_fingerprint_42 rfl ?_
    refine wa_i2l (pc' := 44) dX9_fingerprint_43 rfl (by omega) ?_
    refine wa_ladd (pc' := 45) dX9_fingerprint_44 rfl ?_
    refine wa_lret dX9_fingerprint_45 rfl (by decide) (by decide) ?_
    exact zX_e (c := (t, nm, s, D, H, ol, ct, k, y, si, fl, wi)) (by rw [cs_fingerprint] <;> ((repeat (first | rw [if_pos (by omega)] | rw [if_neg (by omega)])) <;> rfl)) rfl
  · refine wa_iconst (pc' := 39) dX9_fingerprint_38 rfl ?_
    refine wa_goto (pc' := 43) dX9_fingerprint_39 (by decide) ?_
    refine wa_i2l (pc' := 44) dX9_fingerprint_43 rfl (by omega) ?_
    refine wa_ladd (pc' := 45) dX9_fingerprint_44 rfl ?_
    refine wa_lret dX9_fingerprint_45 rfl (by decide) (by decide) ?_
    exact zX_e (c := (t, nm, s, D, H, ol, ct, k, y, si, fl, wi)) (by rw [cs_fingerprint] <;> ((repeat (first | rw [if_pos (by omega)] | rw [if_neg (by omega)])) <;> rfl)) rfl

